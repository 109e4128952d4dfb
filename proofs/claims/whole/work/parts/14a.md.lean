-- X5_in
set_option maxHeartbeats 4000000 in
set_option maxRecDepth 100000 in
theorem c_X5_in (l : Launch) (G : va_G) (cI cQ : ClassId) (p0 p1 p2 : Int32) : Met l yX5_in wsX5_in ({ frames := 0, cells := 0, slots := 0, locals := 0 } : Room) (pPc G cI cQ [.int p0, .int p1, .int p2] ([])) (vp_Si (fun r => r = bI (pIn p0 p1 p2))) 0 0 (fun _ => False) := by
  refine pm_of (cc := cX5_in) (maxL := 3) (ret := (some .boolean)) (own := RX5) (by decide) rfl rfl (Nat.le_of_ble_eq_true rfl) rfl ?_
  intro p e s m below meth cd ls hx hb hr hts hown hlocks hml hK hP hl
  refine lv_iload_n hx hb dX5_in_0 rfl (lv_at hl 0 rfl) ?_
  refine lv_iload_n hx hb dX5_in_1 rfl (lv_at hl 1 rfl) ?_
  refine lv_icmp_lt (tgt := 14) hx hb dX5_in_2 (by decide) (fun c_1 => ?_) (fun c_1 => ?_)
  · skip
    refine lv_iconst (v := 0) hx hb dX5_in_14 (by decide) ?_
    exact p_ret hx hb hr hlocks rfl (by first | rfl | (simp only [bI, pIn, eq_true c_1, eq_false (Int32.not_le.mpr c_1), if_true, if_false, and_true, true_and, and_false, false_and, or_true, true_or, or_false, false_or, not_true_eq_false, not_false_eq_true, ne_eq, ite_true, ite_false]; done) | (simp only [bI, pIn, eq_true c_1, eq_false (Int32.not_le.mpr c_1), if_true, if_false, and_true, true_and, and_false, false_and, or_true, true_or, or_false, false_or, not_true_eq_false, not_false_eq_true, ne_eq, ite_true, ite_false]; rfl)) dX5_in_15
  · skip
    refine lv_iload_n hx hb dX5_in_5 rfl (lv_at hl 0 rfl) ?_
    refine lv_iload_n hx hb dX5_in_6 rfl (lv_at hl 2 rfl) ?_
    refine lv_icmp_gt (tgt := 14) hx hb dX5_in_7 (by decide) (fun c_2 => ?_) (fun c_2 => ?_)
    · skip
      refine lv_iconst (v := 0) hx hb dX5_in_14 (by decide) ?_
      exact p_ret hx hb hr hlocks rfl (by first | rfl | (simp only [bI, pIn, eq_false c_1, eq_true (Int32.not_lt.mp c_1), eq_true c_2, eq_false (Int32.not_le.mpr c_2), if_true, if_false, and_true, true_and, and_false, false_and, or_true, true_or, or_false, false_or, not_true_eq_false, not_false_eq_true, ne_eq, ite_true, ite_false]; done) | (simp only [bI, pIn, eq_false c_1, eq_true (Int32.not_lt.mp c_1), eq_true c_2, eq_false (Int32.not_le.mpr c_2), if_true, if_false, and_true, true_and, and_false, false_and, or_true, true_or, or_false, false_or, not_true_eq_false, not_false_eq_true, ne_eq, ite_true, ite_false]; rfl)) dX5_in_15
    · skip
      refine lv_iconst (v := 1) hx hb dX5_in_10 (by decide) ?_
      refine lv_goto (tgt := 15) hx hb dX5_in_11 (by decide) ?_
      exact p_ret hx hb hr hlocks rfl (by first | rfl | (simp only [bI, pIn, eq_false c_1, eq_true (Int32.not_lt.mp c_1), eq_false c_2, eq_true (Int32.not_lt.mp c_2), if_true, if_false, and_true, true_and, and_false, false_and, or_true, true_or, or_false, false_or, not_true_eq_false, not_false_eq_true, ne_eq, ite_true, ite_false]; done) | (simp only [bI, pIn, eq_false c_1, eq_true (Int32.not_lt.mp c_1), eq_false c_2, eq_true (Int32.not_lt.mp c_2), if_true, if_false, and_true, true_and, and_false, false_and, or_true, true_or, or_false, false_or, not_true_eq_false, not_false_eq_true, ne_eq, ite_true, ite_false]; rfl)) dX5_in_15
theorem cd_X5_in : yX5_in.cls = RX5 ∧ yX5_in.cls ≠ "java/lang/invoke/MethodHandle" ∧ yX5_in.cls ≠ "java/lang/invoke/VarHandle" ∧ (parseMethodDescriptor yX5_in.desc).map (fun d => d.parameters.length) = some 3 := by decide +kernel
-- X5_greater
set_option maxHeartbeats 4000000 in
set_option maxRecDepth 100000 in
theorem c_X5_greater (l : Launch) (G : va_G) (cI cQ : ClassId) (p0 p1 : Int32) : Met l yX5_greater wsX5_greater ({ frames := 0, cells := 0, slots := 0, locals := 0 } : Room) (pPc G cI cQ [.int p0, .int p1] ([])) (vp_Si (fun r => r = gT p0 p1)) 0 0 (fun _ => False) := by
  refine pm_of (cc := cX5_greater) (maxL := 2) (ret := (some .int)) (own := RX5) (by decide) rfl rfl (Nat.le_of_ble_eq_true rfl) rfl ?_
  intro p e s m below meth cd ls hx hb hr hts hown hlocks hml hK hP hl
  refine lv_iload_n hx hb dX5_greater_0 rfl (lv_at hl 0 rfl) ?_
  refine lv_iload_n hx hb dX5_greater_1 rfl (lv_at hl 1 rfl) ?_
  refine lv_icmp_le (tgt := 9) hx hb dX5_greater_2 (by decide) (fun c_1 => ?_) (fun c_1 => ?_)
  · skip
    refine lv_iload_n hx hb dX5_greater_9 rfl (lv_at hl 1 rfl) ?_
    exact p_ret hx hb hr hlocks rfl (by first | rfl | (simp only [gT, eq_true c_1, eq_false (Int32.not_lt.mpr c_1), if_true, if_false, and_true, true_and, and_false, false_and, or_true, true_or, or_false, false_or, not_true_eq_false, not_false_eq_true, ne_eq, ite_true, ite_false]; done) | (simp only [gT, eq_true c_1, eq_false (Int32.not_lt.mpr c_1), if_true, if_false, and_true, true_and, and_false, false_and, or_true, true_or, or_false, false_or, not_true_eq_false, not_false_eq_true, ne_eq, ite_true, ite_false]; rfl)) dX5_greater_10
  · skip
    refine lv_iload_n hx hb dX5_greater_5 rfl (lv_at hl 0 rfl) ?_
    refine lv_goto (tgt := 10) hx hb dX5_greater_6 (by decide) ?_
    exact p_ret hx hb hr hlocks rfl (by first | rfl | (simp only [gT, eq_false c_1, eq_true (Int32.not_le.mp c_1), if_true, if_false, and_true, true_and, and_false, false_and, or_true, true_or, or_false, false_or, not_true_eq_false, not_false_eq_true, ne_eq, ite_true, ite_false]; done) | (simp only [gT, eq_false c_1, eq_true (Int32.not_le.mp c_1), if_true, if_false, and_true, true_and, and_false, false_and, or_true, true_or, or_false, false_or, not_true_eq_false, not_false_eq_true, ne_eq, ite_true, ite_false]; rfl)) dX5_greater_10
theorem cd_X5_greater : yX5_greater.cls = RX5 ∧ yX5_greater.cls ≠ "java/lang/invoke/MethodHandle" ∧ yX5_greater.cls ≠ "java/lang/invoke/VarHandle" ∧ (parseMethodDescriptor yX5_greater.desc).map (fun d => d.parameters.length) = some 2 := by decide +kernel
-- X5_aside
theorem lk_X5_aside_1 : Cond.fieldLink RX5 16 "EvenLoadsModel" "before" "[I" ∈ wsX5_aside := List.mem_of_getElem? (i := 1) (by decide +kernel)
theorem lk_X5_aside_2 : Cond.fieldLink RX5 7 "EvenLoadsModel" "s" "[I" ∈ wsX5_aside := List.mem_of_getElem? (i := 2) (by decide +kernel)
theorem in_X5_aside_X5 : ∀ w ∈ wsX50, w ∈ wsX5_aside := by decide +kernel
set_option maxHeartbeats 4000000 in
set_option maxRecDepth 100000 in
theorem c_X5_aside (l : Launch) (G : va_G) (cI cQ : ClassId) (q : Nat → Nat) (z : MS) (sz0 : Nat) : Met l yX5_aside wsX5_aside ({ frames := 0, cells := 0, slots := 0, locals := 0 } : Room) (mPc G cI cQ [.ref (q 0)] ((mdT cI q z)) sz0) (va_Qv (fun (_ : Unit) => True) (mB G (va_A ((mdT cI q z)) sz0) (fun _ => (mdT cI q (uMbef z (kMs z))))) (va_A ((mdT cI q z)) sz0)) 0 0 (va_A ((mdT cI q z)) sz0) := by
  refine mm_ofv (cc := cX5_aside) (maxL := 2) (ret := none) (own := RX5) (by decide) rfl rfl (Nat.le_of_ble_eq_true rfl) rfl ?_
  intro p e s m below meth cd ls A hx hb hr hts hown hlocks hml hA hK hP hD hS hl
  refine lv_iconst (v := 0) hx hb dX5_aside_0 (by decide) ?_
  refine lv_istore_n (lv' := [(1, .int 0), (0, .ref (q 0))]) hx hb dX5_aside_1 rfl hl (by decide) rfl (fun ls hl => ?_)
  have L2 : ∀ (n2 i2 : Nat), 0 ≤ i2 → i2 ≤ 102 → 102 + 1 ≤ i2 + n2 → ∀ (H : Heap) (locs : List Loc), va_P G vwCl ((mdT cI q (uMbef z (cpF (kMs z) (kMbef z) i2)))) H → va_D A ((mdT cI q (uMbef z (cpF (kMs z) (kMbef z) i2)))) → va_S A s.heap H locs → ∀ (ls : Array Slot), lv_has ls 2 [(1, .int (nI i2)), (0, .ref (q 0))] → W p l e ({ frames := 0, cells := 0, slots := 0, locals := 0 } : Room) s m ([.ref (q 0)] : List Value).toArray below meth cd H locs 0 0 (MQ below (va_Qv (fun (_ : Unit) => True) (mB G (A) (fun _ => (mdT cI q (uMbef z (kMs z))))) (A)) ([.ref (q 0)] : List Value).toArray s 0 0 A) (F0 m 2 ls []) := by
    intro n2
    induction n2 with
    | zero => intro i2 h0 h1 h2; exact absurd h2 (by omega)
    | succ n2 ih2 =>
      intro i2 hlo2 hle2 hin2 H locs hP hD hS ls hl
      refine lv_iload_n hx hb dX5_aside_2 rfl (lv_at hl 0 rfl) ?_
      refine lv_bipush (v := 102) hx hb dX5_aside_3 (by decide) ?_
      refine lv_icmp_ge (tgt := 26) hx hb dX5_aside_5 (by decide) (fun c_1 => ?_) (fun c_1 => ?_)
      · skip
        have q_2 : 102 = i2 := by have h9 := (nI_leI (a := 102) (b := i2) (by omega) (by omega)).mp c_1; omega
        subst q_2
        have hP := hP.arr 3 (f := (cpF (kMs z) (kMbef z) 102)) (g := (kMs z)) rfl (fun j hj => by simp only [cpF]; rw [if_pos hj])
        have hD := hD.set (p := 3) (e := .inl (cI, 102, .inl ((kMs z)))) rfl
        have hP : va_P G vwCl ((mdT cI q (uMbef z (kMs z)))) H := hP
        have hD : va_D A ((mdT cI q (uMbef z (kMs z)))) := hD
        exact m_vret () hx hb hr hlocks trivial hP hD hS dX5_aside_26
      · skip
        have hlt2 : i2 < 102 := Nat.lt_of_not_le (fun q => c_1 ((nI_leI (a := 102) (b := i2) (by omega) (by omega)).mpr q))
        refine lv_aload_n hx hb dX5_aside_8 rfl (lv_at hl 1 rfl) ?_
        refine va_get (D := G) (ci := 5) (v := .ref (q 3)) (C := RX5) (T := TX5) (N := 15) hx hb hts in_X5_aside_X5 hown hK.1 hP 0 rfl rfl 2 (by decide) (hts _ lk_X5_aside_1) (fun _ h9 => h9) rfl dX5_aside_9 ?_
        refine lv_iload_n hx hb dX5_aside_12 rfl (lv_at hl 0 rfl) ?_
        refine lv_aload_n hx hb dX5_aside_13 rfl (lv_at hl 1 rfl) ?_
        refine va_get (D := G) (ci := 5) (v := .ref (q 1)) (C := RX5) (T := TX5) (N := 15) hx hb hts in_X5_aside_X5 hown hK.1 hP 0 rfl rfl 0 (by decide) (hts _ lk_X5_aside_2) (fun _ h9 => h9) rfl dX5_aside_14 ?_
        refine lv_iload_n hx hb dX5_aside_17 rfl (lv_at hl 0 rfl) ?_
        refine iald_n hx hb hK hP 1 rfl i2 rfl (by omega) (by decide) dX5_aside_18 ?_
        refine iast_n hx hb hK hP hD hS 3 rfl i2 rfl (by omega) (by decide) dX5_aside_19 (fun H locs hP hD hS => ?_)
        have hP : va_P G vwCl ((mdT cI q (uMbef z (upd (cpF (kMs z) (kMbef z) i2) i2 ((kMs z) i2))))) H := hP
        have hD : va_D A ((mdT cI q (uMbef z (upd (cpF (kMs z) (kMbef z) i2) i2 ((kMs z) i2))))) := hD
        refine lv_iinc (v := (nI (i2 + 1))) (lv' := [(1, .int (nI (i2 + 1))), (0, .ref (q 0))]) hx hb dX5_aside_20 hl (k := 0) rfl (nI_1 i2) (by decide) rfl (fun ls hl => ?_)
        refine lv_goto (tgt := 2) hx hb dX5_aside_23 (by decide) ?_
        have e_3 : (cpF (kMs z) (kMbef z) (i2 + 1)) = (upd (cpF (kMs z) (kMbef z) i2) i2 ((kMs z) i2)) := (cpF_s _ _ _)
        exact ih2 (i2 + 1) (by omega) (by omega) (by omega) _ _ (by rw [e_3]; exact hP) (by rw [e_3]; exact hD) hS ls (by exact lv_sub hl [0, 1] rfl)
  have e_4 : (nI 0) = 0 := by first | rfl | decide
  have e_5 : (cpF (kMs z) (kMbef z) 0) = (kMbef z) := cpF_0 _ _
  exact L2 (102 + 1) 0 (by omega) (by omega) (by omega) _ _ (by rw [e_5]; exact hP) (by rw [e_5]; exact hD) hS ls (by rw [e_4]; exact lv_sub hl [0, 1] rfl)
theorem cd_X5_aside : yX5_aside.cls = RX5 ∧ yX5_aside.cls ≠ "java/lang/invoke/MethodHandle" ∧ yX5_aside.cls ≠ "java/lang/invoke/VarHandle" ∧ (parseMethodDescriptor yX5_aside.desc).map (fun d => d.parameters.length) = some 0 := by decide +kernel
-- X5_layBack
theorem lk_X5_layBack_1 : Cond.fieldLink RX5 7 "EvenLoadsModel" "s" "[I" ∈ wsX5_layBack := List.mem_of_getElem? (i := 1) (by decide +kernel)
theorem lk_X5_layBack_2 : Cond.fieldLink RX5 16 "EvenLoadsModel" "before" "[I" ∈ wsX5_layBack := List.mem_of_getElem? (i := 2) (by decide +kernel)
theorem in_X5_layBack_X5 : ∀ w ∈ wsX50, w ∈ wsX5_layBack := by decide +kernel
set_option maxHeartbeats 4000000 in
set_option maxRecDepth 100000 in
theorem c_X5_layBack (l : Launch) (G : va_G) (cI cQ : ClassId) (q : Nat → Nat) (z : MS) (sz0 : Nat) : Met l yX5_layBack wsX5_layBack ({ frames := 0, cells := 0, slots := 0, locals := 0 } : Room) (mPc G cI cQ [.ref (q 0)] ((mdT cI q z)) sz0) (va_Qv (fun (_ : Unit) => True) (mB G (va_A ((mdT cI q z)) sz0) (fun _ => (mdT cI q (uMs z (kMbef z))))) (va_A ((mdT cI q z)) sz0)) 0 0 (va_A ((mdT cI q z)) sz0) := by
  refine mm_ofv (cc := cX5_layBack) (maxL := 2) (ret := none) (own := RX5) (by decide) rfl rfl (Nat.le_of_ble_eq_true rfl) rfl ?_
  intro p e s m below meth cd ls A hx hb hr hts hown hlocks hml hA hK hP hD hS hl
  refine lv_iconst (v := 0) hx hb dX5_layBack_0 (by decide) ?_
  refine lv_istore_n (lv' := [(1, .int 0), (0, .ref (q 0))]) hx hb dX5_layBack_1 rfl hl (by decide) rfl (fun ls hl => ?_)
  have L2 : ∀ (n2 i2 : Nat), 0 ≤ i2 → i2 ≤ 102 → 102 + 1 ≤ i2 + n2 → ∀ (H : Heap) (locs : List Loc), va_P G vwCl ((mdT cI q (uMs z (cpF (kMbef z) (kMs z) i2)))) H → va_D A ((mdT cI q (uMs z (cpF (kMbef z) (kMs z) i2)))) → va_S A s.heap H locs → ∀ (ls : Array Slot), lv_has ls 2 [(1, .int (nI i2)), (0, .ref (q 0))] → W p l e ({ frames := 0, cells := 0, slots := 0, locals := 0 } : Room) s m ([.ref (q 0)] : List Value).toArray below meth cd H locs 0 0 (MQ below (va_Qv (fun (_ : Unit) => True) (mB G (A) (fun _ => (mdT cI q (uMs z (kMbef z))))) (A)) ([.ref (q 0)] : List Value).toArray s 0 0 A) (F0 m 2 ls []) := by
    intro n2
    induction n2 with
    | zero => intro i2 h0 h1 h2; exact absurd h2 (by omega)
    | succ n2 ih2 =>
      intro i2 hlo2 hle2 hin2 H locs hP hD hS ls hl
      refine lv_iload_n hx hb dX5_layBack_2 rfl (lv_at hl 0 rfl) ?_
      refine lv_bipush (v := 102) hx hb dX5_layBack_3 (by decide) ?_
      refine lv_icmp_ge (tgt := 26) hx hb dX5_layBack_5 (by decide) (fun c_1 => ?_) (fun c_1 => ?_)
      · skip
        have q_2 : 102 = i2 := by have h9 := (nI_leI (a := 102) (b := i2) (by omega) (by omega)).mp c_1; omega
        subst q_2
        have hP := hP.arr 1 (f := (cpF (kMbef z) (kMs z) 102)) (g := (kMbef z)) rfl (fun j hj => by simp only [cpF]; rw [if_pos hj])
        have hD := hD.set (p := 1) (e := .inl (cI, 102, .inl ((kMbef z)))) rfl
        have hP : va_P G vwCl ((mdT cI q (uMs z (kMbef z)))) H := hP
        have hD : va_D A ((mdT cI q (uMs z (kMbef z)))) := hD
        exact m_vret () hx hb hr hlocks trivial hP hD hS dX5_layBack_26
      · skip
        have hlt2 : i2 < 102 := Nat.lt_of_not_le (fun q => c_1 ((nI_leI (a := 102) (b := i2) (by omega) (by omega)).mpr q))
        refine lv_aload_n hx hb dX5_layBack_8 rfl (lv_at hl 1 rfl) ?_
        refine va_get (D := G) (ci := 5) (v := .ref (q 1)) (C := RX5) (T := TX5) (N := 15) hx hb hts in_X5_layBack_X5 hown hK.1 hP 0 rfl rfl 0 (by decide) (hts _ lk_X5_layBack_1) (fun _ h9 => h9) rfl dX5_layBack_9 ?_
        refine lv_iload_n hx hb dX5_layBack_12 rfl (lv_at hl 0 rfl) ?_
        refine lv_aload_n hx hb dX5_layBack_13 rfl (lv_at hl 1 rfl) ?_
        refine va_get (D := G) (ci := 5) (v := .ref (q 3)) (C := RX5) (T := TX5) (N := 15) hx hb hts in_X5_layBack_X5 hown hK.1 hP 0 rfl rfl 2 (by decide) (hts _ lk_X5_layBack_2) (fun _ h9 => h9) rfl dX5_layBack_14 ?_
        refine lv_iload_n hx hb dX5_layBack_17 rfl (lv_at hl 0 rfl) ?_
        refine iald_n hx hb hK hP 3 rfl i2 rfl (by omega) (by decide) dX5_layBack_18 ?_
        refine iast_n hx hb hK hP hD hS 1 rfl i2 rfl (by omega) (by decide) dX5_layBack_19 (fun H locs hP hD hS => ?_)
        have hP : va_P G vwCl ((mdT cI q (uMs z (upd (cpF (kMbef z) (kMs z) i2) i2 ((kMbef z) i2))))) H := hP
        have hD : va_D A ((mdT cI q (uMs z (upd (cpF (kMbef z) (kMs z) i2) i2 ((kMbef z) i2))))) := hD
        refine lv_iinc (v := (nI (i2 + 1))) (lv' := [(1, .int (nI (i2 + 1))), (0, .ref (q 0))]) hx hb dX5_layBack_20 hl (k := 0) rfl (nI_1 i2) (by decide) rfl (fun ls hl => ?_)
        refine lv_goto (tgt := 2) hx hb dX5_layBack_23 (by decide) ?_
        have e_3 : (cpF (kMbef z) (kMs z) (i2 + 1)) = (upd (cpF (kMbef z) (kMs z) i2) i2 ((kMbef z) i2)) := (cpF_s _ _ _)
        exact ih2 (i2 + 1) (by omega) (by omega) (by omega) _ _ (by rw [e_3]; exact hP) (by rw [e_3]; exact hD) hS ls (by exact lv_sub hl [0, 1] rfl)
  have e_4 : (nI 0) = 0 := by first | rfl | decide
  have e_5 : (cpF (kMbef z) (kMs z) 0) = (kMs z) := cpF_0 _ _
  exact L2 (102 + 1) 0 (by omega) (by omega) (by omega) _ _ (by rw [e_5]; exact hP) (by rw [e_5]; exact hD) hS ls (by rw [e_4]; exact lv_sub hl [0, 1] rfl)
theorem cd_X5_layBack : yX5_layBack.cls = RX5 ∧ yX5_layBack.cls ≠ "java/lang/invoke/MethodHandle" ∧ yX5_layBack.cls ≠ "java/lang/invoke/VarHandle" ∧ (parseMethodDescriptor yX5_layBack.desc).map (fun d => d.parameters.length) = some 0 := by decide +kernel
-- X5_isServer
theorem lk_X5_isServer_1 : Cond.fieldLink RX5 7 "EvenLoadsModel" "s" "[I" ∈ wsX5_isServer := List.mem_of_getElem? (i := 1) (by decide +kernel)
theorem in_X5_isServer_X5 : ∀ w ∈ wsX50, w ∈ wsX5_isServer := by decide +kernel
set_option maxHeartbeats 4000000 in
set_option maxRecDepth 100000 in
theorem c_X5_isServer (l : Launch) (G : va_G) (cI cQ : ClassId) (q : Nat → Nat) (z : MS) (nv nj : Nat) (hm : MI (kMs z) nv nj) (p0 : Int32) : Met l yX5_isServer wsX5_isServer ({ frames := 1, cells := 0, slots := 0, locals := 22 } : Room) (pPc G cI cQ [.ref (q 0), .int p0] ((mdT cI q z))) (vp_Si (fun r => r = bI (pHas nv p0))) 0 0 (fun _ => False) := by
  refine pm_of (cc := cX5_isServer) (maxL := 2) (ret := (some .boolean)) (own := RX5) (by decide) rfl rfl (Nat.le_of_ble_eq_true rfl) rfl ?_
  intro p e s m below meth cd ls hx hb hr hts hown hlocks hml hK hP hl
  refine lv_iload_n hx hb dX5_isServer_0 rfl (lv_at hl 1 rfl) ?_
  refine lv_iconst (v := 0) hx hb dX5_isServer_1 (by decide) ?_
  refine lv_aload_n hx hb dX5_isServer_2 rfl (lv_at hl 0 rfl) ?_
  refine va_get (D := G) (ci := 5) (v := .ref (q 1)) (C := RX5) (T := TX5) (N := 15) hx hb hts in_X5_isServer_X5 hown hK.1 hP 0 rfl rfl 0 (by decide) (hts _ lk_X5_isServer_1) (fun _ h9 => h9) rfl dX5_isServer_3 ?_
  refine lv_iconst (v := 0) hx hb dX5_isServer_6 (by decide) ?_
  refine iald_n hx hb hK hP 1 rfl 0 rfl (by decide) (by decide) dX5_isServer_7 ?_
  refine lv_cvt (y := (nI nv)) (hm).1 ?_
  refine lv_iconst (v := 1) hx hb dX5_isServer_8 (by decide) ?_
  refine lv_isub hx hb dX5_isServer_9 ?_
  refine pcS (rest := []) ⟨hx, hb, hml, hown, hts⟩ (c_X5_in l G cI cQ p0 0 ((nI nv) - 1)) (cwS 3 hts gX5_isServer_X5_in rfl rfl rfl cd_X5_in ⟨Nat.le_of_ble_eq_true rfl, Nat.le_of_ble_eq_true rfl⟩) hK hP [] rfl rfl hl.1 rfl (Nat.le_of_ble_eq_true rfl) dX5_isServer_10 ⟨Nat.zero_le _, Nat.zero_le _⟩ ?_
  exact p_ret hx hb hr hlocks bI_nar (bI_iff ⟨fun h => ⟨h.1, (isv (by have := hm.2.1; have := hm.2.2.2; omega) p0).mp h.2⟩, fun h => ⟨h.1, (isv (by have := hm.2.1; have := hm.2.2.2; omega) p0).mpr h.2⟩⟩) dX5_isServer_13
theorem cd_X5_isServer : yX5_isServer.cls = RX5 ∧ yX5_isServer.cls ≠ "java/lang/invoke/MethodHandle" ∧ yX5_isServer.cls ≠ "java/lang/invoke/VarHandle" ∧ (parseMethodDescriptor yX5_isServer.desc).map (fun d => d.parameters.length) = some 1 := by decide +kernel
-- X5_isJob
theorem lk_X5_isJob_1 : Cond.fieldLink RX5 7 "EvenLoadsModel" "s" "[I" ∈ wsX5_isJob := List.mem_of_getElem? (i := 1) (by decide +kernel)
theorem in_X5_isJob_X5 : ∀ w ∈ wsX50, w ∈ wsX5_isJob := by decide +kernel
set_option maxHeartbeats 4000000 in
set_option maxRecDepth 100000 in
theorem c_X5_isJob (l : Launch) (G : va_G) (cI cQ : ClassId) (q : Nat → Nat) (z : MS) (nv nj : Nat) (hm : MI (kMs z) nv nj) (p0 : Int32) : Met l yX5_isJob wsX5_isJob ({ frames := 1, cells := 0, slots := 0, locals := 22 } : Room) (pPc G cI cQ [.ref (q 0), .int p0] ((mdT cI q z))) (vp_Si (fun r => r = bI (pHas nj p0))) 0 0 (fun _ => False) := by
  refine pm_of (cc := cX5_isJob) (maxL := 2) (ret := (some .boolean)) (own := RX5) (by decide) rfl rfl (Nat.le_of_ble_eq_true rfl) rfl ?_
  intro p e s m below meth cd ls hx hb hr hts hown hlocks hml hK hP hl
  refine lv_iload_n hx hb dX5_isJob_0 rfl (lv_at hl 1 rfl) ?_
  refine lv_iconst (v := 0) hx hb dX5_isJob_1 (by decide) ?_
  refine lv_aload_n hx hb dX5_isJob_2 rfl (lv_at hl 0 rfl) ?_
  refine va_get (D := G) (ci := 5) (v := .ref (q 1)) (C := RX5) (T := TX5) (N := 15) hx hb hts in_X5_isJob_X5 hown hK.1 hP 0 rfl rfl 0 (by decide) (hts _ lk_X5_isJob_1) (fun _ h9 => h9) rfl dX5_isJob_3 ?_
  refine lv_iconst (v := 2) hx hb dX5_isJob_6 (by decide) ?_
  refine iald_n hx hb hK hP 1 rfl 2 rfl (by decide) (by decide) dX5_isJob_7 ?_
  refine lv_cvt (y := (nI nj)) (hm).2.2.1 ?_
  refine lv_iconst (v := 1) hx hb dX5_isJob_8 (by decide) ?_
  refine lv_isub hx hb dX5_isJob_9 ?_
  refine pcS (rest := []) ⟨hx, hb, hml, hown, hts⟩ (c_X5_in l G cI cQ p0 0 ((nI nj) - 1)) (cwS 3 hts gX5_isJob_X5_in rfl rfl rfl cd_X5_in ⟨Nat.le_of_ble_eq_true rfl, Nat.le_of_ble_eq_true rfl⟩) hK hP [] rfl rfl hl.1 rfl (Nat.le_of_ble_eq_true rfl) dX5_isJob_10 ⟨Nat.zero_le _, Nat.zero_le _⟩ ?_
  exact p_ret hx hb hr hlocks bI_nar (bI_iff ⟨fun h => ⟨h.1, (isv (by have := hm.2.1; have := hm.2.2.2; omega) p0).mp h.2⟩, fun h => ⟨h.1, (isv (by have := hm.2.1; have := hm.2.2.2; omega) p0).mpr h.2⟩⟩) dX5_isJob_13
theorem cd_X5_isJob : yX5_isJob.cls = RX5 ∧ yX5_isJob.cls ≠ "java/lang/invoke/MethodHandle" ∧ yX5_isJob.cls ≠ "java/lang/invoke/VarHandle" ∧ (parseMethodDescriptor yX5_isJob.desc).map (fun d => d.parameters.length) = some 1 := by decide +kernel
-- X5_of
theorem lk_X5_of_1 : Cond.fieldLink RX5 7 "EvenLoadsModel" "s" "[I" ∈ wsX5_of := List.mem_of_getElem? (i := 1) (by decide +kernel)
theorem in_X5_of_X5 : ∀ w ∈ wsX50, w ∈ wsX5_of := by decide +kernel
set_option maxHeartbeats 4000000 in
set_option maxRecDepth 100000 in
theorem c_X5_of (l : Launch) (G : va_G) (cI cQ : ClassId) (q : Nat → Nat) (z : MS) (nv nj : Nat) (hm : MI (kMs z) nv nj) (p0 : Int32) (p1 : Int32) (hp0 : vp_in p0 24) (hp1 : vp_in p1 4) : Met l yX5_of wsX5_of ({ frames := 0, cells := 0, slots := 0, locals := 0 } : Room) (pPc G cI cQ [.ref (q 0), .int p0, .int p1] ((mdT cI q z))) (vp_Si (fun r => r = (mOf (kMs z) p0 p1))) 0 0 (fun _ => False) := by
  refine pm_of (cc := cX5_of) (maxL := 3) (ret := (some .int)) (own := RX5) (by decide) rfl rfl (Nat.le_of_ble_eq_true rfl) rfl ?_
  intro p e s m below meth cd ls hx hb hr hts hown hlocks hml hK hP hl
  refine lv_aload_n hx hb dX5_of_0 rfl (lv_at hl 0 rfl) ?_
  refine va_get (D := G) (ci := 5) (v := .ref (q 1)) (C := RX5) (T := TX5) (N := 15) hx hb hts in_X5_of_X5 hown hK.1 hP 0 rfl rfl 0 (by decide) (hts _ lk_X5_of_1) (fun _ h9 => h9) rfl dX5_of_1 ?_
  refine lv_bipush (v := 6) hx hb dX5_of_4 (by decide) ?_
  refine lv_iconst (v := 4) hx hb dX5_of_6 (by decide) ?_
  refine lv_iload_n hx hb dX5_of_7 rfl (lv_at hl 1 rfl) ?_
  refine lv_imul hx hb dX5_of_8 ?_
  refine lv_iadd hx hb dX5_of_9 ?_
  refine lv_iload_n hx hb dX5_of_10 rfl (lv_at hl 2 rfl) ?_
  refine lv_iadd hx hb dX5_of_11 ?_
  refine iald_n hx hb hK hP 1 rfl (6 + 4 * p0.toNatClampNeg + p1.toNatClampNeg) (by have e := in_eq hp1 (by decide); have h9 := jx hp0 p1.toNatClampNeg; rw [← e] at h9; exact h9) (by have h9 := in_lt hp0; have h8 := in_lt hp1; omega) (by decide) dX5_of_12 ?_
  exact p_ret hx hb hr hlocks rfl (by first | rfl | (simp only [mOf, if_true, if_false, and_true, true_and, and_false, false_and, or_true, true_or, or_false, false_or, not_true_eq_false, not_false_eq_true, ne_eq, ite_true, ite_false]; done) | (simp only [mOf, if_true, if_false, and_true, true_and, and_false, false_and, or_true, true_or, or_false, false_or, not_true_eq_false, not_false_eq_true, ne_eq, ite_true, ite_false]; rfl)) dX5_of_13
theorem cd_X5_of : yX5_of.cls = RX5 ∧ yX5_of.cls ≠ "java/lang/invoke/MethodHandle" ∧ yX5_of.cls ≠ "java/lang/invoke/VarHandle" ∧ (parseMethodDescriptor yX5_of.desc).map (fun d => d.parameters.length) = some 2 := by decide +kernel
-- X5_isOpen
theorem lk_X5_isOpen_1 : Cond.fieldLink RX5 7 "EvenLoadsModel" "s" "[I" ∈ wsX5_isOpen := List.mem_of_getElem? (i := 1) (by decide +kernel)
theorem in_X5_isOpen_X5 : ∀ w ∈ wsX50, w ∈ wsX5_isOpen := by decide +kernel
set_option maxHeartbeats 4000000 in
set_option maxRecDepth 100000 in
theorem c_X5_isOpen (l : Launch) (G : va_G) (cI cQ : ClassId) (q : Nat → Nat) (z : MS) (nv nj : Nat) (hm : MI (kMs z) nv nj) (p0 : Int32) : Met l yX5_isOpen wsX5_isOpen ({ frames := 2, cells := 0, slots := 0, locals := 43 } : Room) (pPc G cI cQ [.ref (q 0), .int p0] ((mdT cI q z))) (vp_Si (fun r => r = bI (pMOpen (kMs z) nv p0))) 0 0 (fun _ => False) := by
  refine pm_of (cc := cX5_isOpen) (maxL := 2) (ret := (some .boolean)) (own := RX5) (by decide) rfl rfl (Nat.le_of_ble_eq_true rfl) rfl ?_
  intro p e s m below meth cd ls hx hb hr hts hown hlocks hml hK hP hl
  refine lv_aload_n hx hb dX5_isOpen_0 rfl (lv_at hl 0 rfl) ?_
  refine lv_iload_n hx hb dX5_isOpen_1 rfl (lv_at hl 1 rfl) ?_
  refine pcV (rest := []) ⟨hx, hb, hml, hown, hts⟩ (c_X5_isServer l G cI cQ q z nv nj hm p0) (cwV 1 hts gX5_isOpen_X5_isServer rfl rfl rfl cd_X5_isServer ⟨Nat.le_of_ble_eq_true rfl, Nat.le_of_ble_eq_true rfl⟩) hK hP [0, 1, 2, 3, 4, 5, 6] rfl 0 rfl rfl rfl rfl hl.1 rfl (Nat.le_of_ble_eq_true rfl) dX5_isOpen_2 ⟨Nat.zero_le _, Nat.zero_le _⟩ ?_
  refine lv_if_eq (tgt := 26) hx hb dX5_isOpen_5 (by decide) (fun c_1 => ?_) (fun c_1 => ?_)
  · skip
    have c_1 := bI_0.mp c_1
    refine lv_iconst (v := 0) hx hb dX5_isOpen_26 (by decide) ?_
    exact p_ret hx hb hr hlocks rfl (by first | rfl | (simp only [bI, pMOpen, eq_false c_1, if_true, if_false, and_true, true_and, and_false, false_and, or_true, true_or, or_false, false_or, not_true_eq_false, not_false_eq_true, ne_eq, ite_true, ite_false]; done) | (simp only [bI, pMOpen, eq_false c_1, if_true, if_false, and_true, true_and, and_false, false_and, or_true, true_or, or_false, false_or, not_true_eq_false, not_false_eq_true, ne_eq, ite_true, ite_false]; rfl)) dX5_isOpen_27
  · skip
    have c_1 := bI_n0.mp c_1
    refine lv_aload_n hx hb dX5_isOpen_8 rfl (lv_at hl 0 rfl) ?_
    refine va_get (D := G) (ci := 5) (v := .ref (q 1)) (C := RX5) (T := TX5) (N := 15) hx hb hts in_X5_isOpen_X5 hown hK.1 hP 0 rfl rfl 0 (by decide) (hts _ lk_X5_isOpen_1) (fun _ h9 => h9) rfl dX5_isOpen_9 ?_
    refine lv_iconst (v := 1) hx hb dX5_isOpen_12 (by decide) ?_
    refine iald_n hx hb hK hP 1 rfl 1 rfl (by decide) (by decide) dX5_isOpen_13 ?_
    refine lv_iload_n hx hb dX5_isOpen_14 rfl (lv_at hl 1 rfl) ?_
    refine lv_ishr hx hb dX5_isOpen_15 ?_
    refine lv_iconst (v := 1) hx hb dX5_isOpen_16 (by decide) ?_
    refine lv_iand hx hb dX5_isOpen_17 ?_
    refine lv_iconst (v := 1) hx hb dX5_isOpen_18 (by decide) ?_
    refine lv_icmp_ne (tgt := 26) hx hb dX5_isOpen_19 (by decide) (fun c_2 => ?_) (fun c_2 => ?_)
    · skip
      refine lv_iconst (v := 0) hx hb dX5_isOpen_26 (by decide) ?_
      exact p_ret hx hb hr hlocks rfl (by first | rfl | (simp only [bI, pMOpen, eq_true c_1, eq_false c_2, eq_false (Ne.symm c_2), if_true, if_false, and_true, true_and, and_false, false_and, or_true, true_or, or_false, false_or, not_true_eq_false, not_false_eq_true, ne_eq, ite_true, ite_false]; done) | (simp only [bI, pMOpen, eq_true c_1, eq_false c_2, eq_false (Ne.symm c_2), if_true, if_false, and_true, true_and, and_false, false_and, or_true, true_or, or_false, false_or, not_true_eq_false, not_false_eq_true, ne_eq, ite_true, ite_false]; rfl)) dX5_isOpen_27
    · skip
      refine lv_iconst (v := 1) hx hb dX5_isOpen_22 (by decide) ?_
      refine lv_goto (tgt := 27) hx hb dX5_isOpen_23 (by decide) ?_
      exact p_ret hx hb hr hlocks rfl (by first | rfl | (simp only [bI, pMOpen, eq_true c_1, eq_true c_2, eq_true (Eq.symm c_2), if_true, if_false, and_true, true_and, and_false, false_and, or_true, true_or, or_false, false_or, not_true_eq_false, not_false_eq_true, ne_eq, ite_true, ite_false]; done) | (simp only [bI, pMOpen, eq_true c_1, eq_true c_2, eq_true (Eq.symm c_2), if_true, if_false, and_true, true_and, and_false, false_and, or_true, true_or, or_false, false_or, not_true_eq_false, not_false_eq_true, ne_eq, ite_true, ite_false]; rfl)) dX5_isOpen_27
theorem cd_X5_isOpen : yX5_isOpen.cls = RX5 ∧ yX5_isOpen.cls ≠ "java/lang/invoke/MethodHandle" ∧ yX5_isOpen.cls ≠ "java/lang/invoke/VarHandle" ∧ (parseMethodDescriptor yX5_isOpen.desc).map (fun d => d.parameters.length) = some 1 := by decide +kernel
-- X5_isDone
set_option maxHeartbeats 4000000 in
set_option maxRecDepth 100000 in
theorem c_X5_isDone (l : Launch) (G : va_G) (cI cQ : ClassId) (q : Nat → Nat) (z : MS) (nv nj : Nat) (hm : MI (kMs z) nv nj) (p0 : Int32) (hp0 : vp_in p0 24) : Met l yX5_isDone wsX5_isDone ({ frames := 1, cells := 0, slots := 0, locals := 22 } : Room) (pPc G cI cQ [.ref (q 0), .int p0] ((mdT cI q z))) (vp_Si (fun r => r = bI (pMDone (kMs z) p0))) 0 0 (fun _ => False) := by
  refine pm_of (cc := cX5_isDone) (maxL := 2) (ret := (some .boolean)) (own := RX5) (by decide) rfl rfl (Nat.le_of_ble_eq_true rfl) rfl ?_
  intro p e s m below meth cd ls hx hb hr hts hown hlocks hml hK hP hl
  refine lv_aload_n hx hb dX5_isDone_0 rfl (lv_at hl 0 rfl) ?_
  refine lv_iload_n hx hb dX5_isDone_1 rfl (lv_at hl 1 rfl) ?_
  refine lv_iconst (v := 2) hx hb dX5_isDone_2 (by decide) ?_
  refine pcV (rest := []) ⟨hx, hb, hml, hown, hts⟩ (c_X5_of l G cI cQ q z nv nj hm p0 2 hp0 (vp_in_nI (n := 2) (N := 4) (by decide) (by decide))) (cwV 2 hts gX5_isDone_X5_of rfl rfl rfl cd_X5_of ⟨Nat.le_of_ble_eq_true rfl, Nat.le_of_ble_eq_true rfl⟩) hK hP [0, 1, 2, 3, 4, 5, 6] rfl 0 rfl rfl rfl rfl hl.1 rfl (Nat.le_of_ble_eq_true rfl) dX5_isDone_3 ⟨Nat.zero_le _, Nat.zero_le _⟩ ?_
  refine lv_bipush (v := (-9)) hx hb dX5_isDone_6 (by decide) ?_
  refine lv_icmp_ne (tgt := 15) hx hb dX5_isDone_8 (by decide) (fun c_1 => ?_) (fun c_1 => ?_)
  · skip
    refine lv_iconst (v := 0) hx hb dX5_isDone_15 (by decide) ?_
    exact p_ret hx hb hr hlocks rfl (by first | rfl | (simp only [bI, pMDone, eq_false c_1, eq_false (Ne.symm c_1), if_true, if_false, and_true, true_and, and_false, false_and, or_true, true_or, or_false, false_or, not_true_eq_false, not_false_eq_true, ne_eq, ite_true, ite_false]; done) | (simp only [bI, pMDone, eq_false c_1, eq_false (Ne.symm c_1), if_true, if_false, and_true, true_and, and_false, false_and, or_true, true_or, or_false, false_or, not_true_eq_false, not_false_eq_true, ne_eq, ite_true, ite_false]; rfl)) dX5_isDone_16
  · skip
    refine lv_iconst (v := 1) hx hb dX5_isDone_11 (by decide) ?_
    refine lv_goto (tgt := 16) hx hb dX5_isDone_12 (by decide) ?_
    exact p_ret hx hb hr hlocks rfl (by first | rfl | (simp only [bI, pMDone, eq_true c_1, eq_true (Eq.symm c_1), if_true, if_false, and_true, true_and, and_false, false_and, or_true, true_or, or_false, false_or, not_true_eq_false, not_false_eq_true, ne_eq, ite_true, ite_false]; done) | (simp only [bI, pMDone, eq_true c_1, eq_true (Eq.symm c_1), if_true, if_false, and_true, true_and, and_false, false_and, or_true, true_or, or_false, false_or, not_true_eq_false, not_false_eq_true, ne_eq, ite_true, ite_false]; rfl)) dX5_isDone_16
theorem cd_X5_isDone : yX5_isDone.cls = RX5 ∧ yX5_isDone.cls ≠ "java/lang/invoke/MethodHandle" ∧ yX5_isDone.cls ≠ "java/lang/invoke/VarHandle" ∧ (parseMethodDescriptor yX5_isDone.desc).map (fun d => d.parameters.length) = some 1 := by decide +kernel
-- X5_opens
theorem lk_X5_opens_1 : Cond.fieldLink RX5 7 "EvenLoadsModel" "s" "[I" ∈ wsX5_opens := List.mem_of_getElem? (i := 1) (by decide +kernel)
theorem in_X5_opens_X5 : ∀ w ∈ wsX50, w ∈ wsX5_opens := by decide +kernel
set_option maxHeartbeats 4000000 in
set_option maxRecDepth 100000 in
theorem c_X5_opens (l : Launch) (G : va_G) (cI cQ : ClassId) (q : Nat → Nat) (z : MS) (nv nj : Nat) (hm : MI (kMs z) nv nj) : Met l yX5_opens wsX5_opens ({ frames := 0, cells := 0, slots := 0, locals := 0 } : Room) (pPc G cI cQ [.ref (q 0)] ((mdT cI q z))) (vp_Si (fun r => r = mOpens (kMs z))) 0 0 (fun _ => False) := by
  refine pm_of (cc := cX5_opens) (maxL := 3) (ret := (some .int)) (own := RX5) (by decide) rfl rfl (Nat.le_of_ble_eq_true rfl) rfl ?_
  intro p e s m below meth cd ls hx hb hr hts hown hlocks hml hK hP hl
  refine lv_iconst (v := 0) hx hb dX5_opens_0 (by decide) ?_
  refine lv_istore_n (lv' := [(1, .int 0), (0, .ref (q 0))]) hx hb dX5_opens_1 rfl hl (by decide) rfl (fun ls hl => ?_)
  refine lv_iconst (v := 0) hx hb dX5_opens_2 (by decide) ?_
  refine lv_istore_n (lv' := [(2, .int 0), (1, .int 0), (0, .ref (q 0))]) hx hb dX5_opens_3 rfl hl (by decide) rfl (fun ls hl => ?_)
  have L4 : ∀ (n4 i4 : Nat), 0 ≤ i4 → i4 ≤ 6 → 6 + 1 ≤ i4 + n4 → ∀ (ls : Array Slot), lv_has ls 3 [(2, .int (nI i4)), (1, .int (opF (kMs z) i4)), (0, .ref (q 0))] → W p l e ({ frames := 0, cells := 0, slots := 0, locals := 0 } : Room) s m ([.ref (q 0)] : List Value).toArray below meth cd s.heap [] 0 0 (MQ below (vp_Si (fun r => r = mOpens (kMs z))) ([.ref (q 0)] : List Value).toArray s 0 0 (fun _ => False)) (F0 m 4 ls []) := by
    intro n4
    induction n4 with
    | zero => intro i4 h0 h1 h2; exact absurd h2 (by omega)
    | succ n4 ih4 =>
      intro i4 hlo4 hle4 hin4 ls hl
      refine lv_iload_n hx hb dX5_opens_4 rfl (lv_at hl 0 rfl) ?_
      refine lv_bipush (v := 6) hx hb dX5_opens_5 (by decide) ?_
      refine lv_icmp_ge (tgt := 29) hx hb dX5_opens_7 (by decide) (fun c_1 => ?_) (fun c_1 => ?_)
      · skip
        have q_2 : 6 = i4 := by have h9 := (nI_leI (a := 6) (b := i4) (by omega) (by omega)).mp c_1; omega
        subst q_2
        refine lv_iload_n hx hb dX5_opens_29 rfl (lv_at hl 1 rfl) ?_
        exact p_ret hx hb hr hlocks rfl (by first | rfl | (simp only [opF, mOpens, if_true, if_false, and_true, true_and, and_false, false_and, or_true, true_or, or_false, false_or, not_true_eq_false, not_false_eq_true, ne_eq, ite_true, ite_false]; done) | (simp only [opF, mOpens, if_true, if_false, and_true, true_and, and_false, false_and, or_true, true_or, or_false, false_or, not_true_eq_false, not_false_eq_true, ne_eq, ite_true, ite_false]; rfl)) dX5_opens_30
      · skip
        have hlt4 : i4 < 6 := Nat.lt_of_not_le (fun q => c_1 ((nI_leI (a := 6) (b := i4) (by omega) (by omega)).mpr q))
        refine lv_iload_n hx hb dX5_opens_10 rfl (lv_at hl 1 rfl) ?_
        refine lv_aload_n hx hb dX5_opens_11 rfl (lv_at hl 2 rfl) ?_
        refine va_get (D := G) (ci := 5) (v := .ref (q 1)) (C := RX5) (T := TX5) (N := 15) hx hb hts in_X5_opens_X5 hown hK.1 hP 0 rfl rfl 0 (by decide) (hts _ lk_X5_opens_1) (fun _ h9 => h9) rfl dX5_opens_12 ?_
        refine lv_iconst (v := 1) hx hb dX5_opens_15 (by decide) ?_
        refine iald_n hx hb hK hP 1 rfl 1 rfl (by decide) (by decide) dX5_opens_16 ?_
        refine lv_iload_n hx hb dX5_opens_17 rfl (lv_at hl 0 rfl) ?_
        refine lv_ishr hx hb dX5_opens_18 ?_
        refine lv_iconst (v := 1) hx hb dX5_opens_19 (by decide) ?_
        refine lv_iand hx hb dX5_opens_20 ?_
        refine lv_iadd hx hb dX5_opens_21 ?_
        refine lv_istore_n (lv' := [(1, .int ((opF (kMs z) i4) + ((((kMs z) 1) >>> ((nI i4) &&& 31)) &&& 1))), (2, .int (nI i4)), (0, .ref (q 0))]) hx hb dX5_opens_22 rfl hl (by decide) rfl (fun ls hl => ?_)
        refine lv_iinc (v := (nI (i4 + 1))) (lv' := [(2, .int (nI (i4 + 1))), (1, .int ((opF (kMs z) i4) + ((((kMs z) 1) >>> ((nI i4) &&& 31)) &&& 1))), (0, .ref (q 0))]) hx hb dX5_opens_23 hl (k := 1) rfl (nI_1 i4) (by decide) rfl (fun ls hl => ?_)
        refine lv_goto (tgt := 4) hx hb dX5_opens_26 (by decide) ?_
        have e_3 : (opF (kMs z) (i4 + 1)) = ((opF (kMs z) i4) + ((((kMs z) 1) >>> ((nI i4) &&& 31)) &&& 1)) := by first | rfl | (simp only [opF, mOpens, if_true, if_false, and_true, true_and, and_false, false_and, or_true, true_or, or_false, false_or, not_true_eq_false, not_false_eq_true, ne_eq, ite_true, ite_false]; done) | (simp only [opF, mOpens, if_true, if_false, and_true, true_and, and_false, false_and, or_true, true_or, or_false, false_or, not_true_eq_false, not_false_eq_true, ne_eq, ite_true, ite_false]; rfl)
        exact ih4 (i4 + 1) (by omega) (by omega) (by omega) ls (by rw [e_3]; exact lv_sub hl [0, 1, 2] rfl)
  have e_4 : (nI 0) = 0 := by first | rfl | decide
  have e_5 : (opF (kMs z) 0) = 0 := by first | rfl | (simp only [opF, mOpens, if_true, if_false, and_true, true_and, and_false, false_and, or_true, true_or, or_false, false_or, not_true_eq_false, not_false_eq_true, ne_eq, ite_true, ite_false]; done) | (simp only [opF, mOpens, if_true, if_false, and_true, true_and, and_false, false_and, or_true, true_or, or_false, false_or, not_true_eq_false, not_false_eq_true, ne_eq, ite_true, ite_false]; rfl)
  exact L4 (6 + 1) 0 (by omega) (by omega) (by omega) ls (by rw [e_4]; rw [e_5]; exact lv_sub hl [0, 1, 2] rfl)
theorem cd_X5_opens : yX5_opens.cls = RX5 ∧ yX5_opens.cls ≠ "java/lang/invoke/MethodHandle" ∧ yX5_opens.cls ≠ "java/lang/invoke/VarHandle" ∧ (parseMethodDescriptor yX5_opens.desc).map (fun d => d.parameters.length) = some 0 := by decide +kernel
-- X5_load
theorem lk_X5_load_1 : Cond.fieldLink RX5 7 "EvenLoadsModel" "s" "[I" ∈ wsX5_load := List.mem_of_getElem? (i := 1) (by decide +kernel)
theorem in_X5_load_X5 : ∀ w ∈ wsX50, w ∈ wsX5_load := by decide +kernel
set_option maxHeartbeats 4000000 in
set_option maxRecDepth 100000 in
theorem c_X5_load (l : Launch) (G : va_G) (cI cQ : ClassId) (q : Nat → Nat) (z : MS) (nv nj : Nat) (hm : MI (kMs z) nv nj) (p0 : Int32) : Met l yX5_load wsX5_load ({ frames := 1, cells := 0, slots := 0, locals := 22 } : Room) (pPc G cI cQ [.ref (q 0), .int p0] ((mdT cI q z))) (vp_Si (fun r => r = mLoad (kMs z) nj p0)) 0 0 (fun _ => False) := by
  refine pm_of (cc := cX5_load) (maxL := 4) (ret := (some .int)) (own := RX5) (by decide) rfl rfl (Nat.le_of_ble_eq_true rfl) rfl ?_
  intro p e s m below meth cd ls hx hb hr hts hown hlocks hml hK hP hl
  refine lv_iconst (v := 0) hx hb dX5_load_0 (by decide) ?_
  refine lv_istore_n (lv' := [(2, .int 0), (0, .ref (q 0)), (1, .int p0)]) hx hb dX5_load_1 rfl hl (by decide) rfl (fun ls hl => ?_)
  refine lv_iconst (v := 0) hx hb dX5_load_2 (by decide) ?_
  refine lv_istore_n (lv' := [(3, .int 0), (2, .int 0), (0, .ref (q 0)), (1, .int p0)]) hx hb dX5_load_3 rfl hl (by decide) rfl (fun ls hl => ?_)
  have L4 : ∀ (n4 i4 : Nat), 0 ≤ i4 → i4 ≤ nj → nj + 1 ≤ i4 + n4 → ∀ (ls : Array Slot), lv_has ls 4 [(3, .int (nI i4)), (2, .int (loF (kMs z) p0 i4)), (0, .ref (q 0)), (1, .int p0)] → W p l e ({ frames := 1, cells := 0, slots := 0, locals := 22 } : Room) s m ([.ref (q 0), .int p0] : List Value).toArray below meth cd s.heap [] 0 0 (MQ below (vp_Si (fun r => r = mLoad (kMs z) nj p0)) ([.ref (q 0), .int p0] : List Value).toArray s 0 0 (fun _ => False)) (F0 m 4 ls []) := by
    intro n4
    induction n4 with
    | zero => intro i4 h0 h1 h2; exact absurd h2 (by omega)
    | succ n4 ih4 =>
      intro i4 hlo4 hle4 hin4 ls hl
      have hnj := hm.2.2.2
      refine lv_iload_n hx hb dX5_load_4 rfl (lv_at hl 0 rfl) ?_
      refine lv_aload_n hx hb dX5_load_5 rfl (lv_at hl 2 rfl) ?_
      refine va_get (D := G) (ci := 5) (v := .ref (q 1)) (C := RX5) (T := TX5) (N := 15) hx hb hts in_X5_load_X5 hown hK.1 hP 0 rfl rfl 0 (by decide) (hts _ lk_X5_load_1) (fun _ h9 => h9) rfl dX5_load_6 ?_
      refine lv_iconst (v := 2) hx hb dX5_load_9 (by decide) ?_
      refine iald_n hx hb hK hP 1 rfl 2 rfl (by decide) (by decide) dX5_load_10 ?_
      refine lv_cvt (y := (nI nj)) (hm).2.2.1 ?_
      refine lv_icmp_ge (tgt := 43) hx hb dX5_load_11 (by decide) (fun c_1 => ?_) (fun c_1 => ?_)
      · skip
        have q_2 : nj = i4 := by have h9 := (nI_leI (a := nj) (b := i4) (by omega) (by omega)).mp c_1; omega
        subst q_2
        refine lv_iload_n hx hb dX5_load_43 rfl (lv_at hl 1 rfl) ?_
        exact p_ret hx hb hr hlocks rfl (by first | rfl | (simp only [loF, mLoad, if_true, if_false, and_true, true_and, and_false, false_and, or_true, true_or, or_false, false_or, not_true_eq_false, not_false_eq_true, ne_eq, ite_true, ite_false]; done) | (simp only [loF, mLoad, if_true, if_false, and_true, true_and, and_false, false_and, or_true, true_or, or_false, false_or, not_true_eq_false, not_false_eq_true, ne_eq, ite_true, ite_false]; rfl)) dX5_load_44
      · skip
        have hlt4 : i4 < nj := Nat.lt_of_not_le (fun q => c_1 ((nI_leI (a := nj) (b := i4) (by omega) (by omega)).mpr q))
        refine lv_iload_n hx hb dX5_load_14 rfl (lv_at hl 1 rfl) ?_
        refine lv_aload_n hx hb dX5_load_15 rfl (lv_at hl 2 rfl) ?_
        refine lv_iload_n hx hb dX5_load_16 rfl (lv_at hl 0 rfl) ?_
        refine lv_iconst (v := 2) hx hb dX5_load_17 (by decide) ?_
        refine pcV (rest := [.int (loF (kMs z) p0 i4)]) ⟨hx, hb, hml, hown, hts⟩ (c_X5_of l G cI cQ q z nv nj hm (nI i4) 2 (vp_in_nI (by have := hm.2.2.2; omega) (by decide)) (vp_in_nI (n := 2) (N := 4) (by decide) (by decide))) (cwV 2 hts gX5_load_X5_of rfl rfl rfl cd_X5_of ⟨Nat.le_of_ble_eq_true rfl, Nat.le_of_ble_eq_true rfl⟩) hK hP [0, 1, 2, 3, 4, 5, 6] rfl 0 rfl rfl rfl rfl hl.1 rfl (Nat.le_of_ble_eq_true rfl) dX5_load_18 ⟨Nat.zero_le _, Nat.zero_le _⟩ ?_
        refine lv_iload_n hx hb dX5_load_21 rfl (lv_at hl 3 rfl) ?_
        refine lv_icmp_ne (tgt := 34) hx hb dX5_load_22 (by decide) (fun c_3 => ?_) (fun c_3 => ?_)
        · skip
          refine lv_iconst (v := 0) hx hb dX5_load_34 (by decide) ?_
          refine lv_iadd hx hb dX5_load_35 ?_
          refine lv_istore_n (lv' := [(2, .int ((loF (kMs z) p0 i4) + 0)), (3, .int (nI i4)), (0, .ref (q 0)), (1, .int p0)]) hx hb dX5_load_36 rfl hl (by decide) rfl (fun ls hl => ?_)
          refine lv_iinc (v := (nI (i4 + 1))) (lv' := [(3, .int (nI (i4 + 1))), (2, .int ((loF (kMs z) p0 i4) + 0)), (0, .ref (q 0)), (1, .int p0)]) hx hb dX5_load_37 hl (k := 1) rfl (nI_1 i4) (by decide) rfl (fun ls hl => ?_)
          refine lv_goto (tgt := 4) hx hb dX5_load_40 (by decide) ?_
          have e_4 : (loF (kMs z) p0 (i4 + 1)) = ((loF (kMs z) p0 i4) + 0) := by first | rfl | (simp only [loF, mLoad, eq_false c_3, eq_false (Ne.symm c_3), if_true, if_false, and_true, true_and, and_false, false_and, or_true, true_or, or_false, false_or, not_true_eq_false, not_false_eq_true, ne_eq, ite_true, ite_false]; done) | (simp only [loF, mLoad, eq_false c_3, eq_false (Ne.symm c_3), if_true, if_false, and_true, true_and, and_false, false_and, or_true, true_or, or_false, false_or, not_true_eq_false, not_false_eq_true, ne_eq, ite_true, ite_false]; rfl)
          exact ih4 (i4 + 1) (by omega) (by omega) (by omega) ls (by rw [e_4]; exact lv_sub hl [0, 1, 2, 3] rfl)
        · skip
          refine lv_aload_n hx hb dX5_load_25 rfl (lv_at hl 2 rfl) ?_
          refine lv_iload_n hx hb dX5_load_26 rfl (lv_at hl 0 rfl) ?_
          refine lv_iconst (v := 0) hx hb dX5_load_27 (by decide) ?_
          refine pcV (rest := [.int (loF (kMs z) p0 i4)]) ⟨hx, hb, hml, hown, hts⟩ (c_X5_of l G cI cQ q z nv nj hm (nI i4) 0 (vp_in_nI (by have := hm.2.2.2; omega) (by decide)) (vp_in_nI (n := 0) (N := 4) (by decide) (by decide))) (cwV 2 hts gX5_load_X5_of rfl rfl rfl cd_X5_of ⟨Nat.le_of_ble_eq_true rfl, Nat.le_of_ble_eq_true rfl⟩) hK hP [0, 1, 2, 3, 4, 5, 6] rfl 0 rfl rfl rfl rfl hl.1 rfl (Nat.le_of_ble_eq_true rfl) dX5_load_28 ⟨Nat.zero_le _, Nat.zero_le _⟩ ?_
          refine lv_goto (tgt := 35) hx hb dX5_load_31 (by decide) ?_
          refine lv_iadd hx hb dX5_load_35 ?_
          refine lv_istore_n (lv' := [(2, .int ((loF (kMs z) p0 i4) + (mOf (kMs z) (nI i4) 0))), (3, .int (nI i4)), (0, .ref (q 0)), (1, .int p0)]) hx hb dX5_load_36 rfl hl (by decide) rfl (fun ls hl => ?_)
          refine lv_iinc (v := (nI (i4 + 1))) (lv' := [(3, .int (nI (i4 + 1))), (2, .int ((loF (kMs z) p0 i4) + (mOf (kMs z) (nI i4) 0))), (0, .ref (q 0)), (1, .int p0)]) hx hb dX5_load_37 hl (k := 1) rfl (nI_1 i4) (by decide) rfl (fun ls hl => ?_)
          refine lv_goto (tgt := 4) hx hb dX5_load_40 (by decide) ?_
          have e_5 : (loF (kMs z) p0 (i4 + 1)) = ((loF (kMs z) p0 i4) + (mOf (kMs z) (nI i4) 0)) := by first | rfl | (simp only [loF, mLoad, eq_true c_3, eq_true (Eq.symm c_3), if_true, if_false, and_true, true_and, and_false, false_and, or_true, true_or, or_false, false_or, not_true_eq_false, not_false_eq_true, ne_eq, ite_true, ite_false]; done) | (simp only [loF, mLoad, eq_true c_3, eq_true (Eq.symm c_3), if_true, if_false, and_true, true_and, and_false, false_and, or_true, true_or, or_false, false_or, not_true_eq_false, not_false_eq_true, ne_eq, ite_true, ite_false]; rfl)
          exact ih4 (i4 + 1) (by omega) (by omega) (by omega) ls (by rw [e_5]; exact lv_sub hl [0, 1, 2, 3] rfl)
  have e_6 : (nI 0) = 0 := by first | rfl | decide
  have e_7 : (loF (kMs z) p0 0) = 0 := by first | rfl | (simp only [loF, mLoad, if_true, if_false, and_true, true_and, and_false, false_and, or_true, true_or, or_false, false_or, not_true_eq_false, not_false_eq_true, ne_eq, ite_true, ite_false]; done) | (simp only [loF, mLoad, if_true, if_false, and_true, true_and, and_false, false_and, or_true, true_or, or_false, false_or, not_true_eq_false, not_false_eq_true, ne_eq, ite_true, ite_false]; rfl)
  exact L4 (nj + 1) 0 (by omega) (by omega) (by omega) ls (by rw [e_6]; rw [e_7]; exact lv_sub hl [0, 1, 2, 3] rfl)
theorem cd_X5_load : yX5_load.cls = RX5 ∧ yX5_load.cls ≠ "java/lang/invoke/MethodHandle" ∧ yX5_load.cls ≠ "java/lang/invoke/VarHandle" ∧ (parseMethodDescriptor yX5_load.desc).map (fun d => d.parameters.length) = some 1 := by decide +kernel
-- X5_allLoads
theorem lk_X5_allLoads_1 : Cond.fieldLink RX5 7 "EvenLoadsModel" "s" "[I" ∈ wsX5_allLoads := List.mem_of_getElem? (i := 1) (by decide +kernel)
theorem in_X5_allLoads_X5 : ∀ w ∈ wsX50, w ∈ wsX5_allLoads := by decide +kernel
set_option maxHeartbeats 4000000 in
set_option maxRecDepth 100000 in
theorem c_X5_allLoads (l : Launch) (G : va_G) (cI cQ : ClassId) (q : Nat → Nat) (z : MS) (nv nj : Nat) (hm : MI (kMs z) nv nj) : Met l yX5_allLoads wsX5_allLoads ({ frames := 2, cells := 0, slots := 0, locals := 43 } : Room) (pPc G cI cQ [.ref (q 0)] ((mdT cI q z))) (vp_Si (fun r => r = mAll (kMs z) nj)) 0 0 (fun _ => False) := by
  refine pm_of (cc := cX5_allLoads) (maxL := 3) (ret := (some .int)) (own := RX5) (by decide) rfl rfl (Nat.le_of_ble_eq_true rfl) rfl ?_
  intro p e s m below meth cd ls hx hb hr hts hown hlocks hml hK hP hl
  refine lv_iconst (v := 0) hx hb dX5_allLoads_0 (by decide) ?_
  refine lv_istore_n (lv' := [(1, .int 0), (0, .ref (q 0))]) hx hb dX5_allLoads_1 rfl hl (by decide) rfl (fun ls hl => ?_)
  refine lv_iconst (v := 0) hx hb dX5_allLoads_2 (by decide) ?_
  refine lv_istore_n (lv' := [(2, .int 0), (1, .int 0), (0, .ref (q 0))]) hx hb dX5_allLoads_3 rfl hl (by decide) rfl (fun ls hl => ?_)
  have L4 : ∀ (n4 i4 : Nat), 0 ≤ i4 → i4 ≤ nj → nj + 1 ≤ i4 + n4 → ∀ (ls : Array Slot), lv_has ls 3 [(2, .int (nI i4)), (1, .int (alF (kMs z) i4)), (0, .ref (q 0))] → W p l e ({ frames := 2, cells := 0, slots := 0, locals := 43 } : Room) s m ([.ref (q 0)] : List Value).toArray below meth cd s.heap [] 0 0 (MQ below (vp_Si (fun r => r = mAll (kMs z) nj)) ([.ref (q 0)] : List Value).toArray s 0 0 (fun _ => False)) (F0 m 4 ls []) := by
    intro n4
    induction n4 with
    | zero => intro i4 h0 h1 h2; exact absurd h2 (by omega)
    | succ n4 ih4 =>
      intro i4 hlo4 hle4 hin4 ls hl
      have hnj := hm.2.2.2
      refine lv_iload_n hx hb dX5_allLoads_4 rfl (lv_at hl 0 rfl) ?_
      refine lv_aload_n hx hb dX5_allLoads_5 rfl (lv_at hl 2 rfl) ?_
      refine va_get (D := G) (ci := 5) (v := .ref (q 1)) (C := RX5) (T := TX5) (N := 15) hx hb hts in_X5_allLoads_X5 hown hK.1 hP 0 rfl rfl 0 (by decide) (hts _ lk_X5_allLoads_1) (fun _ h9 => h9) rfl dX5_allLoads_6 ?_
      refine lv_iconst (v := 2) hx hb dX5_allLoads_9 (by decide) ?_
      refine iald_n hx hb hK hP 1 rfl 2 rfl (by decide) (by decide) dX5_allLoads_10 ?_
      refine lv_cvt (y := (nI nj)) (hm).2.2.1 ?_
      refine lv_icmp_ge (tgt := 41) hx hb dX5_allLoads_11 (by decide) (fun c_1 => ?_) (fun c_1 => ?_)
      · skip
        have q_2 : nj = i4 := by have h9 := (nI_leI (a := nj) (b := i4) (by omega) (by omega)).mp c_1; omega
        subst q_2
        refine lv_iload_n hx hb dX5_allLoads_41 rfl (lv_at hl 1 rfl) ?_
        exact p_ret hx hb hr hlocks rfl (by first | rfl | (simp only [alF, mAll, if_true, if_false, and_true, true_and, and_false, false_and, or_true, true_or, or_false, false_or, not_true_eq_false, not_false_eq_true, ne_eq, ite_true, ite_false]; done) | (simp only [alF, mAll, if_true, if_false, and_true, true_and, and_false, false_and, or_true, true_or, or_false, false_or, not_true_eq_false, not_false_eq_true, ne_eq, ite_true, ite_false]; rfl)) dX5_allLoads_42
      · skip
        have hlt4 : i4 < nj := Nat.lt_of_not_le (fun q => c_1 ((nI_leI (a := nj) (b := i4) (by omega) (by omega)).mpr q))
        refine lv_iload_n hx hb dX5_allLoads_14 rfl (lv_at hl 1 rfl) ?_
        refine lv_aload_n hx hb dX5_allLoads_15 rfl (lv_at hl 2 rfl) ?_
        refine lv_iload_n hx hb dX5_allLoads_16 rfl (lv_at hl 0 rfl) ?_
        refine pcV (rest := [.int (alF (kMs z) i4)]) ⟨hx, hb, hml, hown, hts⟩ (c_X5_isDone l G cI cQ q z nv nj hm (nI i4) (vp_in_nI (by have := hm.2.2.2; omega) (by decide))) (cwV 1 hts gX5_allLoads_X5_isDone rfl rfl rfl cd_X5_isDone ⟨Nat.le_of_ble_eq_true rfl, Nat.le_of_ble_eq_true rfl⟩) hK hP [0, 1, 2, 3, 4, 5, 6] rfl 0 rfl rfl rfl rfl hl.1 rfl (Nat.le_of_ble_eq_true rfl) dX5_allLoads_17 ⟨Nat.zero_le _, Nat.zero_le _⟩ ?_
        refine lv_if_eq (tgt := 27) hx hb dX5_allLoads_20 (by decide) (fun c_3 => ?_) (fun c_3 => ?_)
        · skip
          have c_3 := bI_0.mp c_3
          refine lv_aload_n hx hb dX5_allLoads_27 rfl (lv_at hl 2 rfl) ?_
          refine lv_iload_n hx hb dX5_allLoads_28 rfl (lv_at hl 0 rfl) ?_
          refine lv_iconst (v := 0) hx hb dX5_allLoads_29 (by decide) ?_
          refine pcV (rest := [.int (alF (kMs z) i4)]) ⟨hx, hb, hml, hown, hts⟩ (c_X5_of l G cI cQ q z nv nj hm (nI i4) 0 (vp_in_nI (by have := hm.2.2.2; omega) (by decide)) (vp_in_nI (n := 0) (N := 4) (by decide) (by decide))) (cwV 2 hts gX5_allLoads_X5_of rfl rfl rfl cd_X5_of ⟨Nat.le_of_ble_eq_true rfl, Nat.le_of_ble_eq_true rfl⟩) hK hP [0, 1, 2, 3, 4, 5, 6] rfl 0 rfl rfl rfl rfl hl.1 rfl (Nat.le_of_ble_eq_true rfl) dX5_allLoads_30 ⟨Nat.zero_le _, Nat.zero_le _⟩ ?_
          refine lv_iadd hx hb dX5_allLoads_33 ?_
          refine lv_istore_n (lv' := [(1, .int ((alF (kMs z) i4) + (mOf (kMs z) (nI i4) 0))), (2, .int (nI i4)), (0, .ref (q 0))]) hx hb dX5_allLoads_34 rfl hl (by decide) rfl (fun ls hl => ?_)
          refine lv_iinc (v := (nI (i4 + 1))) (lv' := [(2, .int (nI (i4 + 1))), (1, .int ((alF (kMs z) i4) + (mOf (kMs z) (nI i4) 0))), (0, .ref (q 0))]) hx hb dX5_allLoads_35 hl (k := 1) rfl (nI_1 i4) (by decide) rfl (fun ls hl => ?_)
          refine lv_goto (tgt := 4) hx hb dX5_allLoads_38 (by decide) ?_
          have e_4 : (alF (kMs z) (i4 + 1)) = ((alF (kMs z) i4) + (mOf (kMs z) (nI i4) 0)) := by first | rfl | (simp only [alF, mAll, eq_false c_3, if_true, if_false, and_true, true_and, and_false, false_and, or_true, true_or, or_false, false_or, not_true_eq_false, not_false_eq_true, ne_eq, ite_true, ite_false]; done) | (simp only [alF, mAll, eq_false c_3, if_true, if_false, and_true, true_and, and_false, false_and, or_true, true_or, or_false, false_or, not_true_eq_false, not_false_eq_true, ne_eq, ite_true, ite_false]; rfl)
          exact ih4 (i4 + 1) (by omega) (by omega) (by omega) ls (by rw [e_4]; exact lv_sub hl [0, 1, 2] rfl)
        · skip
          have c_3 := bI_n0.mp c_3
          refine lv_iconst (v := 0) hx hb dX5_allLoads_23 (by decide) ?_
          refine lv_goto (tgt := 33) hx hb dX5_allLoads_24 (by decide) ?_
          refine lv_iadd hx hb dX5_allLoads_33 ?_
          refine lv_istore_n (lv' := [(1, .int ((alF (kMs z) i4) + 0)), (2, .int (nI i4)), (0, .ref (q 0))]) hx hb dX5_allLoads_34 rfl hl (by decide) rfl (fun ls hl => ?_)
          refine lv_iinc (v := (nI (i4 + 1))) (lv' := [(2, .int (nI (i4 + 1))), (1, .int ((alF (kMs z) i4) + 0)), (0, .ref (q 0))]) hx hb dX5_allLoads_35 hl (k := 1) rfl (nI_1 i4) (by decide) rfl (fun ls hl => ?_)
          refine lv_goto (tgt := 4) hx hb dX5_allLoads_38 (by decide) ?_
          have e_5 : (alF (kMs z) (i4 + 1)) = ((alF (kMs z) i4) + 0) := by first | rfl | (simp only [alF, mAll, eq_true c_3, if_true, if_false, and_true, true_and, and_false, false_and, or_true, true_or, or_false, false_or, not_true_eq_false, not_false_eq_true, ne_eq, ite_true, ite_false]; done) | (simp only [alF, mAll, eq_true c_3, if_true, if_false, and_true, true_and, and_false, false_and, or_true, true_or, or_false, false_or, not_true_eq_false, not_false_eq_true, ne_eq, ite_true, ite_false]; rfl)
          exact ih4 (i4 + 1) (by omega) (by omega) (by omega) ls (by rw [e_5]; exact lv_sub hl [0, 1, 2] rfl)
  have e_6 : (nI 0) = 0 := by first | rfl | decide
  have e_7 : (alF (kMs z) 0) = 0 := by first | rfl | (simp only [alF, mAll, if_true, if_false, and_true, true_and, and_false, false_and, or_true, true_or, or_false, false_or, not_true_eq_false, not_false_eq_true, ne_eq, ite_true, ite_false]; done) | (simp only [alF, mAll, if_true, if_false, and_true, true_and, and_false, false_and, or_true, true_or, or_false, false_or, not_true_eq_false, not_false_eq_true, ne_eq, ite_true, ite_false]; rfl)
  exact L4 (nj + 1) 0 (by omega) (by omega) (by omega) ls (by rw [e_6]; rw [e_7]; exact lv_sub hl [0, 1, 2] rfl)
theorem cd_X5_allLoads : yX5_allLoads.cls = RX5 ∧ yX5_allLoads.cls ≠ "java/lang/invoke/MethodHandle" ∧ yX5_allLoads.cls ≠ "java/lang/invoke/VarHandle" ∧ (parseMethodDescriptor yX5_allLoads.desc).map (fun d => d.parameters.length) = some 0 := by decide +kernel
-- X5_greatest
theorem lk_X5_greatest_1 : Cond.fieldLink RX5 7 "EvenLoadsModel" "s" "[I" ∈ wsX5_greatest := List.mem_of_getElem? (i := 1) (by decide +kernel)
theorem in_X5_greatest_X5 : ∀ w ∈ wsX50, w ∈ wsX5_greatest := by decide +kernel
set_option maxHeartbeats 4000000 in
set_option maxRecDepth 100000 in
theorem c_X5_greatest (l : Launch) (G : va_G) (cI cQ : ClassId) (q : Nat → Nat) (z : MS) (nv nj : Nat) (hm : MI (kMs z) nv nj) : Met l yX5_greatest wsX5_greatest ({ frames := 2, cells := 0, slots := 0, locals := 45 } : Room) (pPc G cI cQ [.ref (q 0)] ((mdT cI q z))) (vp_Si (fun r => r = mGreat (kMs z) nv nj)) 0 0 (fun _ => False) := by
  refine pm_of (cc := cX5_greatest) (maxL := 3) (ret := (some .int)) (own := RX5) (by decide) rfl rfl (Nat.le_of_ble_eq_true rfl) rfl ?_
  intro p e s m below meth cd ls hx hb hr hts hown hlocks hml hK hP hl
  refine lv_iconst (v := 0) hx hb dX5_greatest_0 (by decide) ?_
  refine lv_istore_n (lv' := [(1, .int 0), (0, .ref (q 0))]) hx hb dX5_greatest_1 rfl hl (by decide) rfl (fun ls hl => ?_)
  refine lv_iconst (v := 0) hx hb dX5_greatest_2 (by decide) ?_
  refine lv_istore_n (lv' := [(2, .int 0), (1, .int 0), (0, .ref (q 0))]) hx hb dX5_greatest_3 rfl hl (by decide) rfl (fun ls hl => ?_)
  have L4 : ∀ (n4 i4 : Nat), 0 ≤ i4 → i4 ≤ nv → nv + 1 ≤ i4 + n4 → ∀ (ls : Array Slot), lv_has ls 3 [(2, .int (nI i4)), (1, .int (grF (kMs z) nj i4)), (0, .ref (q 0))] → W p l e ({ frames := 2, cells := 0, slots := 0, locals := 45 } : Room) s m ([.ref (q 0)] : List Value).toArray below meth cd s.heap [] 0 0 (MQ below (vp_Si (fun r => r = mGreat (kMs z) nv nj)) ([.ref (q 0)] : List Value).toArray s 0 0 (fun _ => False)) (F0 m 4 ls []) := by
    intro n4
    induction n4 with
    | zero => intro i4 h0 h1 h2; exact absurd h2 (by omega)
    | succ n4 ih4 =>
      intro i4 hlo4 hle4 hin4 ls hl
      have hnv := hm.2.1
      refine lv_iload_n hx hb dX5_greatest_4 rfl (lv_at hl 0 rfl) ?_
      refine lv_aload_n hx hb dX5_greatest_5 rfl (lv_at hl 2 rfl) ?_
      refine va_get (D := G) (ci := 5) (v := .ref (q 1)) (C := RX5) (T := TX5) (N := 15) hx hb hts in_X5_greatest_X5 hown hK.1 hP 0 rfl rfl 0 (by decide) (hts _ lk_X5_greatest_1) (fun _ h9 => h9) rfl dX5_greatest_6 ?_
      refine lv_iconst (v := 0) hx hb dX5_greatest_9 (by decide) ?_
      refine iald_n hx hb hK hP 1 rfl 0 rfl (by decide) (by decide) dX5_greatest_10 ?_
      refine lv_cvt (y := (nI nv)) (hm).1 ?_
      refine lv_icmp_ge (tgt := 30) hx hb dX5_greatest_11 (by decide) (fun c_1 => ?_) (fun c_1 => ?_)
      · skip
        have q_2 : nv = i4 := by have h9 := (nI_leI (a := nv) (b := i4) (by omega) (by omega)).mp c_1; omega
        subst q_2
        refine lv_iload_n hx hb dX5_greatest_30 rfl (lv_at hl 1 rfl) ?_
        exact p_ret hx hb hr hlocks rfl (by first | rfl | (simp only [grF, mGreat, if_true, if_false, and_true, true_and, and_false, false_and, or_true, true_or, or_false, false_or, not_true_eq_false, not_false_eq_true, ne_eq, ite_true, ite_false]; done) | (simp only [grF, mGreat, if_true, if_false, and_true, true_and, and_false, false_and, or_true, true_or, or_false, false_or, not_true_eq_false, not_false_eq_true, ne_eq, ite_true, ite_false]; rfl)) dX5_greatest_31
      · skip
        have hlt4 : i4 < nv := Nat.lt_of_not_le (fun q => c_1 ((nI_leI (a := nv) (b := i4) (by omega) (by omega)).mpr q))
        refine lv_iload_n hx hb dX5_greatest_14 rfl (lv_at hl 1 rfl) ?_
        refine lv_aload_n hx hb dX5_greatest_15 rfl (lv_at hl 2 rfl) ?_
        refine lv_iload_n hx hb dX5_greatest_16 rfl (lv_at hl 0 rfl) ?_
        refine pcV (rest := [.int (grF (kMs z) nj i4)]) ⟨hx, hb, hml, hown, hts⟩ (c_X5_load l G cI cQ q z nv nj hm (nI i4)) (cwV 1 hts gX5_greatest_X5_load rfl rfl rfl cd_X5_load ⟨Nat.le_of_ble_eq_true rfl, Nat.le_of_ble_eq_true rfl⟩) hK hP [0, 1, 2, 3, 4, 5, 6] rfl 0 rfl rfl rfl rfl hl.1 rfl (Nat.le_of_ble_eq_true rfl) dX5_greatest_17 ⟨Nat.zero_le _, Nat.zero_le _⟩ ?_
        refine pcS (rest := []) ⟨hx, hb, hml, hown, hts⟩ (c_X5_greater l G cI cQ (grF (kMs z) nj i4) (mLoad (kMs z) nj (nI i4))) (cwS 2 hts gX5_greatest_X5_greater rfl rfl rfl cd_X5_greater ⟨Nat.le_of_ble_eq_true rfl, Nat.le_of_ble_eq_true rfl⟩) hK hP [] rfl rfl hl.1 rfl (Nat.le_of_ble_eq_true rfl) dX5_greatest_20 ⟨Nat.zero_le _, Nat.zero_le _⟩ ?_
        refine lv_istore_n (lv' := [(1, .int (gT (grF (kMs z) nj i4) (mLoad (kMs z) nj (nI i4)))), (2, .int (nI i4)), (0, .ref (q 0))]) hx hb dX5_greatest_23 rfl hl (by decide) rfl (fun ls hl => ?_)
        refine lv_iinc (v := (nI (i4 + 1))) (lv' := [(2, .int (nI (i4 + 1))), (1, .int (gT (grF (kMs z) nj i4) (mLoad (kMs z) nj (nI i4)))), (0, .ref (q 0))]) hx hb dX5_greatest_24 hl (k := 1) rfl (nI_1 i4) (by decide) rfl (fun ls hl => ?_)
        refine lv_goto (tgt := 4) hx hb dX5_greatest_27 (by decide) ?_
        have e_3 : (grF (kMs z) nj (i4 + 1)) = (gT (grF (kMs z) nj i4) (mLoad (kMs z) nj (nI i4))) := by first | rfl | (simp only [grF, mGreat, if_true, if_false, and_true, true_and, and_false, false_and, or_true, true_or, or_false, false_or, not_true_eq_false, not_false_eq_true, ne_eq, ite_true, ite_false]; done) | (simp only [grF, mGreat, if_true, if_false, and_true, true_and, and_false, false_and, or_true, true_or, or_false, false_or, not_true_eq_false, not_false_eq_true, ne_eq, ite_true, ite_false]; rfl)
        exact ih4 (i4 + 1) (by omega) (by omega) (by omega) ls (by rw [e_3]; exact lv_sub hl [0, 1, 2] rfl)
  have e_4 : (nI 0) = 0 := by first | rfl | decide
  have e_5 : (grF (kMs z) nj 0) = 0 := by first | rfl | (simp only [grF, mGreat, if_true, if_false, and_true, true_and, and_false, false_and, or_true, true_or, or_false, false_or, not_true_eq_false, not_false_eq_true, ne_eq, ite_true, ite_false]; done) | (simp only [grF, mGreat, if_true, if_false, and_true, true_and, and_false, false_and, or_true, true_or, or_false, false_or, not_true_eq_false, not_false_eq_true, ne_eq, ite_true, ite_false]; rfl)
  exact L4 (nv + 1) 0 (by omega) (by omega) (by omega) ls (by rw [e_4]; rw [e_5]; exact lv_sub hl [0, 1, 2] rfl)
theorem cd_X5_greatest : yX5_greatest.cls = RX5 ∧ yX5_greatest.cls ≠ "java/lang/invoke/MethodHandle" ∧ yX5_greatest.cls ≠ "java/lang/invoke/VarHandle" ∧ (parseMethodDescriptor yX5_greatest.desc).map (fun d => d.parameters.length) = some 0 := by decide +kernel
-- X5_bound
theorem lk_X5_bound_1 : Cond.fieldLink RX5 7 "EvenLoadsModel" "s" "[I" ∈ wsX5_bound := List.mem_of_getElem? (i := 1) (by decide +kernel)
theorem in_X5_bound_X5 : ∀ w ∈ wsX50, w ∈ wsX5_bound := by decide +kernel
set_option maxHeartbeats 4000000 in
set_option maxRecDepth 100000 in
theorem c_X5_bound (l : Launch) (G : va_G) (cI cQ : ClassId) (q : Nat → Nat) (z : MS) (nv nj : Nat) (hm : MI (kMs z) nv nj) : Met l yX5_bound wsX5_bound ({ frames := 3, cells := 0, slots := 0, locals := 65 } : Room) (pPc G cI cQ [.ref (q 0)] ((mdT cI q z))) (vp_Si (fun r => r = mBound (kMs z) nj)) 0 0 (fun _ => False) := by
  refine pm_of (cc := cX5_bound) (maxL := 3) (ret := (some .int)) (own := RX5) (by decide) rfl rfl (Nat.le_of_ble_eq_true rfl) rfl ?_
  intro p e s m below meth cd ls hx hb hr hts hown hlocks hml hK hP hl
  refine lv_iconst (v := 0) hx hb dX5_bound_0 (by decide) ?_
  refine lv_istore_n (lv' := [(1, .int 0), (0, .ref (q 0))]) hx hb dX5_bound_1 rfl hl (by decide) rfl (fun ls hl => ?_)
  refine lv_iconst (v := 0) hx hb dX5_bound_2 (by decide) ?_
  refine lv_istore_n (lv' := [(2, .int 0), (1, .int 0), (0, .ref (q 0))]) hx hb dX5_bound_3 rfl hl (by decide) rfl (fun ls hl => ?_)
  have L4 : ∀ (n4 i4 : Nat), 0 ≤ i4 → i4 ≤ nj → nj + 1 ≤ i4 + n4 → ∀ (ls : Array Slot), lv_has ls 3 [(2, .int (nI i4)), (1, .int (bdF (kMs z) i4)), (0, .ref (q 0))] → W p l e ({ frames := 3, cells := 0, slots := 0, locals := 65 } : Room) s m ([.ref (q 0)] : List Value).toArray below meth cd s.heap [] 0 0 (MQ below (vp_Si (fun r => r = mBound (kMs z) nj)) ([.ref (q 0)] : List Value).toArray s 0 0 (fun _ => False)) (F0 m 4 ls []) := by
    intro n4
    induction n4 with
    | zero => intro i4 h0 h1 h2; exact absurd h2 (by omega)
    | succ n4 ih4 =>
      intro i4 hlo4 hle4 hin4 ls hl
      have hnj := hm.2.2.2
      refine lv_iload_n hx hb dX5_bound_4 rfl (lv_at hl 0 rfl) ?_
      refine lv_aload_n hx hb dX5_bound_5 rfl (lv_at hl 2 rfl) ?_
      refine va_get (D := G) (ci := 5) (v := .ref (q 1)) (C := RX5) (T := TX5) (N := 15) hx hb hts in_X5_bound_X5 hown hK.1 hP 0 rfl rfl 0 (by decide) (hts _ lk_X5_bound_1) (fun _ h9 => h9) rfl dX5_bound_6 ?_
      refine lv_iconst (v := 2) hx hb dX5_bound_9 (by decide) ?_
      refine iald_n hx hb hK hP 1 rfl 2 rfl (by decide) (by decide) dX5_bound_10 ?_
      refine lv_cvt (y := (nI nj)) (hm).2.2.1 ?_
      refine lv_icmp_ge (tgt := 43) hx hb dX5_bound_11 (by decide) (fun c_1 => ?_) (fun c_1 => ?_)
      · skip
        have q_2 : nj = i4 := by have h9 := (nI_leI (a := nj) (b := i4) (by omega) (by omega)).mp c_1; omega
        subst q_2
        refine lv_aload_n hx hb dX5_bound_43 rfl (lv_at hl 2 rfl) ?_
        refine pcV (rest := []) ⟨hx, hb, hml, hown, hts⟩ (c_X5_opens l G cI cQ q z nv nj hm) (cwV 0 hts gX5_bound_X5_opens rfl rfl rfl cd_X5_opens ⟨Nat.le_of_ble_eq_true rfl, Nat.le_of_ble_eq_true rfl⟩) hK hP [0, 1, 2, 3, 4, 5, 6] rfl 0 rfl rfl rfl rfl hl.1 rfl (Nat.le_of_ble_eq_true rfl) dX5_bound_44 ⟨Nat.zero_le _, Nat.zero_le _⟩ ?_
        refine lv_istore_n (lv' := [(2, .int (mOpens (kMs z))), (1, .int (bdF (kMs z) nj)), (0, .ref (q 0))]) hx hb dX5_bound_47 rfl hl (by decide) rfl (fun ls hl => ?_)
        refine lv_iload_n hx hb dX5_bound_48 rfl (lv_at hl 0 rfl) ?_
        refine lv_if_ne (tgt := 56) hx hb dX5_bound_49 (by decide) (fun c_3 => ?_) (fun c_3 => ?_)
        · skip
          refine lv_iload_n hx hb dX5_bound_56 rfl (lv_at hl 1 rfl) ?_
          refine lv_aload_n hx hb dX5_bound_57 rfl (lv_at hl 2 rfl) ?_
          refine pcV (rest := [.int (bdF (kMs z) nj)]) ⟨hx, hb, hml, hown, hts⟩ (c_X5_allLoads l G cI cQ q z nv nj hm) (cwV 0 hts gX5_bound_X5_allLoads rfl rfl rfl cd_X5_allLoads ⟨Nat.le_of_ble_eq_true rfl, Nat.le_of_ble_eq_true rfl⟩) hK hP [0, 1, 2, 3, 4, 5, 6] rfl 0 rfl rfl rfl rfl hl.1 rfl (Nat.le_of_ble_eq_true rfl) dX5_bound_58 ⟨Nat.zero_le _, Nat.zero_le _⟩ ?_
          refine lv_iload_n hx hb dX5_bound_61 rfl (lv_at hl 0 rfl) ?_
          refine lv_iadd hx hb dX5_bound_62 ?_
          refine lv_iconst (v := 1) hx hb dX5_bound_63 (by decide) ?_
          refine lv_isub hx hb dX5_bound_64 ?_
          refine lv_iload_n hx hb dX5_bound_65 rfl (lv_at hl 0 rfl) ?_
          refine lv_idiv hx hb dX5_bound_66 c_3 ?_
          refine pcS (rest := []) ⟨hx, hb, hml, hown, hts⟩ (c_X5_greater l G cI cQ (bdF (kMs z) nj) ((((mAll (kMs z) nj) + (mOpens (kMs z))) - 1) / (mOpens (kMs z)))) (cwS 2 hts gX5_bound_X5_greater rfl rfl rfl cd_X5_greater ⟨Nat.le_of_ble_eq_true rfl, Nat.le_of_ble_eq_true rfl⟩) hK hP [] rfl rfl hl.1 rfl (Nat.le_of_ble_eq_true rfl) dX5_bound_67 ⟨Nat.zero_le _, Nat.zero_le _⟩ ?_
          exact p_ret hx hb hr hlocks rfl (by first | rfl | (simp only [bdF, mBound, eq_false c_3, eq_false (Ne.symm c_3), if_true, if_false, and_true, true_and, and_false, false_and, or_true, true_or, or_false, false_or, not_true_eq_false, not_false_eq_true, ne_eq, ite_true, ite_false]; done) | (simp only [bdF, mBound, eq_false c_3, eq_false (Ne.symm c_3), if_true, if_false, and_true, true_and, and_false, false_and, or_true, true_or, or_false, false_or, not_true_eq_false, not_false_eq_true, ne_eq, ite_true, ite_false]; rfl)) dX5_bound_70
        · skip
          refine lv_iconst (v := 0) hx hb dX5_bound_52 (by decide) ?_
          refine lv_goto (tgt := 70) hx hb dX5_bound_53 (by decide) ?_
          exact p_ret hx hb hr hlocks rfl (by first | rfl | (simp only [bdF, mBound, eq_true c_3, eq_true (Eq.symm c_3), if_true, if_false, and_true, true_and, and_false, false_and, or_true, true_or, or_false, false_or, not_true_eq_false, not_false_eq_true, ne_eq, ite_true, ite_false]; done) | (simp only [bdF, mBound, eq_true c_3, eq_true (Eq.symm c_3), if_true, if_false, and_true, true_and, and_false, false_and, or_true, true_or, or_false, false_or, not_true_eq_false, not_false_eq_true, ne_eq, ite_true, ite_false]; rfl)) dX5_bound_70
      · skip
        have hlt4 : i4 < nj := Nat.lt_of_not_le (fun q => c_1 ((nI_leI (a := nj) (b := i4) (by omega) (by omega)).mpr q))
        refine lv_aload_n hx hb dX5_bound_14 rfl (lv_at hl 2 rfl) ?_
        refine lv_iload_n hx hb dX5_bound_15 rfl (lv_at hl 0 rfl) ?_
        refine pcV (rest := []) ⟨hx, hb, hml, hown, hts⟩ (c_X5_isDone l G cI cQ q z nv nj hm (nI i4) (vp_in_nI (by have := hm.2.2.2; omega) (by decide))) (cwV 1 hts gX5_bound_X5_isDone rfl rfl rfl cd_X5_isDone ⟨Nat.le_of_ble_eq_true rfl, Nat.le_of_ble_eq_true rfl⟩) hK hP [0, 1, 2, 3, 4, 5, 6] rfl 0 rfl rfl rfl rfl hl.1 rfl (Nat.le_of_ble_eq_true rfl) dX5_bound_16 ⟨Nat.zero_le _, Nat.zero_le _⟩ ?_
        refine lv_if_eq (tgt := 26) hx hb dX5_bound_19 (by decide) (fun c_4 => ?_) (fun c_4 => ?_)
        · skip
          have c_4 := bI_0.mp c_4
          refine lv_iload_n hx hb dX5_bound_26 rfl (lv_at hl 1 rfl) ?_
          refine lv_aload_n hx hb dX5_bound_27 rfl (lv_at hl 2 rfl) ?_
          refine lv_iload_n hx hb dX5_bound_28 rfl (lv_at hl 0 rfl) ?_
          refine lv_iconst (v := 0) hx hb dX5_bound_29 (by decide) ?_
          refine pcV (rest := [.int (bdF (kMs z) i4)]) ⟨hx, hb, hml, hown, hts⟩ (c_X5_of l G cI cQ q z nv nj hm (nI i4) 0 (vp_in_nI (by have := hm.2.2.2; omega) (by decide)) (vp_in_nI (n := 0) (N := 4) (by decide) (by decide))) (cwV 2 hts gX5_bound_X5_of rfl rfl rfl cd_X5_of ⟨Nat.le_of_ble_eq_true rfl, Nat.le_of_ble_eq_true rfl⟩) hK hP [0, 1, 2, 3, 4, 5, 6] rfl 0 rfl rfl rfl rfl hl.1 rfl (Nat.le_of_ble_eq_true rfl) dX5_bound_30 ⟨Nat.zero_le _, Nat.zero_le _⟩ ?_
          refine pcS (rest := []) ⟨hx, hb, hml, hown, hts⟩ (c_X5_greater l G cI cQ (bdF (kMs z) i4) (mOf (kMs z) (nI i4) 0)) (cwS 2 hts gX5_bound_X5_greater rfl rfl rfl cd_X5_greater ⟨Nat.le_of_ble_eq_true rfl, Nat.le_of_ble_eq_true rfl⟩) hK hP [] rfl rfl hl.1 rfl (Nat.le_of_ble_eq_true rfl) dX5_bound_33 ⟨Nat.zero_le _, Nat.zero_le _⟩ ?_
          refine lv_istore_n (lv' := [(1, .int (gT (bdF (kMs z) i4) (mOf (kMs z) (nI i4) 0))), (2, .int (nI i4)), (0, .ref (q 0))]) hx hb dX5_bound_36 rfl hl (by decide) rfl (fun ls hl => ?_)
          refine lv_iinc (v := (nI (i4 + 1))) (lv' := [(2, .int (nI (i4 + 1))), (1, .int (gT (bdF (kMs z) i4) (mOf (kMs z) (nI i4) 0))), (0, .ref (q 0))]) hx hb dX5_bound_37 hl (k := 1) rfl (nI_1 i4) (by decide) rfl (fun ls hl => ?_)
          refine lv_goto (tgt := 4) hx hb dX5_bound_40 (by decide) ?_
          have e_5 : (bdF (kMs z) (i4 + 1)) = (gT (bdF (kMs z) i4) (mOf (kMs z) (nI i4) 0)) := by first | rfl | (simp only [bdF, mBound, eq_false c_4, if_true, if_false, and_true, true_and, and_false, false_and, or_true, true_or, or_false, false_or, not_true_eq_false, not_false_eq_true, ne_eq, ite_true, ite_false]; done) | (simp only [bdF, mBound, eq_false c_4, if_true, if_false, and_true, true_and, and_false, false_and, or_true, true_or, or_false, false_or, not_true_eq_false, not_false_eq_true, ne_eq, ite_true, ite_false]; rfl)
          exact ih4 (i4 + 1) (by omega) (by omega) (by omega) ls (by rw [e_5]; exact lv_sub hl [0, 1, 2] rfl)
        · skip
          have c_4 := bI_n0.mp c_4
          refine lv_iload_n hx hb dX5_bound_22 rfl (lv_at hl 1 rfl) ?_
          refine lv_goto (tgt := 36) hx hb dX5_bound_23 (by decide) ?_
          refine lv_istore_n (lv' := [(1, .int (bdF (kMs z) i4)), (2, .int (nI i4)), (0, .ref (q 0))]) hx hb dX5_bound_36 rfl hl (by decide) rfl (fun ls hl => ?_)
          refine lv_iinc (v := (nI (i4 + 1))) (lv' := [(2, .int (nI (i4 + 1))), (1, .int (bdF (kMs z) i4)), (0, .ref (q 0))]) hx hb dX5_bound_37 hl (k := 1) rfl (nI_1 i4) (by decide) rfl (fun ls hl => ?_)
          refine lv_goto (tgt := 4) hx hb dX5_bound_40 (by decide) ?_
          have e_6 : (bdF (kMs z) (i4 + 1)) = (bdF (kMs z) i4) := by first | rfl | (simp only [bdF, mBound, eq_true c_4, if_true, if_false, and_true, true_and, and_false, false_and, or_true, true_or, or_false, false_or, not_true_eq_false, not_false_eq_true, ne_eq, ite_true, ite_false]; done) | (simp only [bdF, mBound, eq_true c_4, if_true, if_false, and_true, true_and, and_false, false_and, or_true, true_or, or_false, false_or, not_true_eq_false, not_false_eq_true, ne_eq, ite_true, ite_false]; rfl)
          exact ih4 (i4 + 1) (by omega) (by omega) (by omega) ls (by rw [e_6]; exact lv_sub hl [0, 1, 2] rfl)
  have e_7 : (nI 0) = 0 := by first | rfl | decide
  have e_8 : (bdF (kMs z) 0) = 0 := by first | rfl | (simp only [bdF, mBound, if_true, if_false, and_true, true_and, and_false, false_and, or_true, true_or, or_false, false_or, not_true_eq_false, not_false_eq_true, ne_eq, ite_true, ite_false]; done) | (simp only [bdF, mBound, if_true, if_false, and_true, true_and, and_false, false_and, or_true, true_or, or_false, false_or, not_true_eq_false, not_false_eq_true, ne_eq, ite_true, ite_false]; rfl)
  exact L4 (nj + 1) 0 (by omega) (by omega) (by omega) ls (by rw [e_7]; rw [e_8]; exact lv_sub hl [0, 1, 2] rfl)
theorem cd_X5_bound : yX5_bound.cls = RX5 ∧ yX5_bound.cls ≠ "java/lang/invoke/MethodHandle" ∧ yX5_bound.cls ≠ "java/lang/invoke/VarHandle" ∧ (parseMethodDescriptor yX5_bound.desc).map (fun d => d.parameters.length) = some 0 := by decide +kernel
-- X5_target
theorem lk_X5_target_1 : Cond.fieldLink RX5 7 "EvenLoadsModel" "s" "[I" ∈ wsX5_target := List.mem_of_getElem? (i := 1) (by decide +kernel)
theorem in_X5_target_X5 : ∀ w ∈ wsX50, w ∈ wsX5_target := by decide +kernel
set_option maxHeartbeats 4000000 in
set_option maxRecDepth 100000 in
theorem c_X5_target (l : Launch) (G : va_G) (cI cQ : ClassId) (q : Nat → Nat) (z : MS) (nv nj : Nat) (hm : MI (kMs z) nv nj) : Met l yX5_target wsX5_target ({ frames := 4, cells := 0, slots := 0, locals := 87 } : Room) (pPc G cI cQ [.ref (q 0)] ((mdT cI q z))) (vp_Si (fun r => r = mTarget (kMs z) nj)) 0 0 (fun _ => False) := by
  refine pm_of (cc := cX5_target) (maxL := 1) (ret := (some .int)) (own := RX5) (by decide) rfl rfl (Nat.le_of_ble_eq_true rfl) rfl ?_
  intro p e s m below meth cd ls hx hb hr hts hown hlocks hml hK hP hl
  refine lv_aload_n hx hb dX5_target_0 rfl (lv_at hl 0 rfl) ?_
  refine pcV (rest := []) ⟨hx, hb, hml, hown, hts⟩ (c_X5_bound l G cI cQ q z nv nj hm) (cwV 0 hts gX5_target_X5_bound rfl rfl rfl cd_X5_bound ⟨Nat.le_of_ble_eq_true rfl, Nat.le_of_ble_eq_true rfl⟩) hK hP [0, 1, 2, 3, 4, 5, 6] rfl 0 rfl rfl rfl rfl hl.1 rfl (Nat.le_of_ble_eq_true rfl) dX5_target_1 ⟨Nat.zero_le _, Nat.zero_le _⟩ ?_
  refine lv_aload_n hx hb dX5_target_4 rfl (lv_at hl 0 rfl) ?_
  refine va_get (D := G) (ci := 5) (v := .ref (q 1)) (C := RX5) (T := TX5) (N := 15) hx hb hts in_X5_target_X5 hown hK.1 hP 0 rfl rfl 0 (by decide) (hts _ lk_X5_target_1) (fun _ h9 => h9) rfl dX5_target_5 ?_
  refine lv_iconst (v := 4) hx hb dX5_target_8 (by decide) ?_
  refine iald_n hx hb hK hP 1 rfl 4 rfl (by decide) (by decide) dX5_target_9 ?_
  refine lv_imul hx hb dX5_target_10 ?_
  refine lv_bipush (v := 100) hx hb dX5_target_11 (by decide) ?_
  refine lv_idiv hx hb dX5_target_13 (by decide) ?_
  exact p_ret hx hb hr hlocks rfl (by first | rfl | (simp only [mTarget, if_true, if_false, and_true, true_and, and_false, false_and, or_true, true_or, or_false, false_or, not_true_eq_false, not_false_eq_true, ne_eq, ite_true, ite_false]; done) | (simp only [mTarget, if_true, if_false, and_true, true_and, and_false, false_and, or_true, true_or, or_false, false_or, not_true_eq_false, not_false_eq_true, ne_eq, ite_true, ite_false]; rfl)) dX5_target_14
theorem cd_X5_target : yX5_target.cls = RX5 ∧ yX5_target.cls ≠ "java/lang/invoke/MethodHandle" ∧ yX5_target.cls ≠ "java/lang/invoke/VarHandle" ∧ (parseMethodDescriptor yX5_target.desc).map (fun d => d.parameters.length) = some 0 := by decide +kernel
-- X5_areEven
set_option maxHeartbeats 4000000 in
set_option maxRecDepth 100000 in
theorem c_X5_areEven (l : Launch) (G : va_G) (cI cQ : ClassId) (q : Nat → Nat) (z : MS) (nv nj : Nat) (hm : MI (kMs z) nv nj) : Met l yX5_areEven wsX5_areEven ({ frames := 5, cells := 0, slots := 0, locals := 107 } : Room) (pPc G cI cQ [.ref (q 0)] ((mdT cI q z))) (vp_Si (fun r => r = bI (pMEven (kMs z) nv nj))) 0 0 (fun _ => False) := by
  refine pm_of (cc := cX5_areEven) (maxL := 1) (ret := (some .boolean)) (own := RX5) (by decide) rfl rfl (Nat.le_of_ble_eq_true rfl) rfl ?_
  intro p e s m below meth cd ls hx hb hr hts hown hlocks hml hK hP hl
  refine lv_aload_n hx hb dX5_areEven_0 rfl (lv_at hl 0 rfl) ?_
  refine pcV (rest := []) ⟨hx, hb, hml, hown, hts⟩ (c_X5_greatest l G cI cQ q z nv nj hm) (cwV 0 hts gX5_areEven_X5_greatest rfl rfl rfl cd_X5_greatest ⟨Nat.le_of_ble_eq_true rfl, Nat.le_of_ble_eq_true rfl⟩) hK hP [0, 1, 2, 3, 4, 5, 6] rfl 0 rfl rfl rfl rfl hl.1 rfl (Nat.le_of_ble_eq_true rfl) dX5_areEven_1 ⟨Nat.zero_le _, Nat.zero_le _⟩ ?_
  refine lv_aload_n hx hb dX5_areEven_4 rfl (lv_at hl 0 rfl) ?_
  refine pcV (rest := [.int (mGreat (kMs z) nv nj)]) ⟨hx, hb, hml, hown, hts⟩ (c_X5_target l G cI cQ q z nv nj hm) (cwV 0 hts gX5_areEven_X5_target rfl rfl rfl cd_X5_target ⟨Nat.le_of_ble_eq_true rfl, Nat.le_of_ble_eq_true rfl⟩) hK hP [0, 1, 2, 3, 4, 5, 6] rfl 0 rfl rfl rfl rfl hl.1 rfl (Nat.le_of_ble_eq_true rfl) dX5_areEven_5 ⟨Nat.zero_le _, Nat.zero_le _⟩ ?_
  refine lv_icmp_gt (tgt := 15) hx hb dX5_areEven_8 (by decide) (fun c_1 => ?_) (fun c_1 => ?_)
  · skip
    refine lv_iconst (v := 0) hx hb dX5_areEven_15 (by decide) ?_
    exact p_ret hx hb hr hlocks rfl (by first | rfl | (simp only [bI, pMEven, eq_true c_1, eq_false (Int32.not_le.mpr c_1), if_true, if_false, and_true, true_and, and_false, false_and, or_true, true_or, or_false, false_or, not_true_eq_false, not_false_eq_true, ne_eq, ite_true, ite_false]; done) | (simp only [bI, pMEven, eq_true c_1, eq_false (Int32.not_le.mpr c_1), if_true, if_false, and_true, true_and, and_false, false_and, or_true, true_or, or_false, false_or, not_true_eq_false, not_false_eq_true, ne_eq, ite_true, ite_false]; rfl)) dX5_areEven_16
  · skip
    refine lv_iconst (v := 1) hx hb dX5_areEven_11 (by decide) ?_
    refine lv_goto (tgt := 16) hx hb dX5_areEven_12 (by decide) ?_
    exact p_ret hx hb hr hlocks rfl (by first | rfl | (simp only [bI, pMEven, eq_false c_1, eq_true (Int32.not_lt.mp c_1), if_true, if_false, and_true, true_and, and_false, false_and, or_true, true_or, or_false, false_or, not_true_eq_false, not_false_eq_true, ne_eq, ite_true, ite_false]; done) | (simp only [bI, pMEven, eq_false c_1, eq_true (Int32.not_lt.mp c_1), if_true, if_false, and_true, true_and, and_false, false_and, or_true, true_or, or_false, false_or, not_true_eq_false, not_false_eq_true, ne_eq, ite_true, ite_false]; rfl)) dX5_areEven_16
theorem cd_X5_areEven : yX5_areEven.cls = RX5 ∧ yX5_areEven.cls ≠ "java/lang/invoke/MethodHandle" ∧ yX5_areEven.cls ≠ "java/lang/invoke/VarHandle" ∧ (parseMethodDescriptor yX5_areEven.desc).map (fun d => d.parameters.length) = some 0 := by decide +kernel
