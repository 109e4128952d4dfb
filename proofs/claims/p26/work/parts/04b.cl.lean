-- X0_finishedJobs
theorem lk_X0_finishedJobs_1 : Cond.fieldLink RX0 37 "EvenLoads$Cluster" "jobs" "I" ∈ wsX0_finishedJobs := List.mem_of_getElem? (i := 1) (by decide +kernel)
theorem in_X0_finishedJobs_X0 : ∀ w ∈ wsX00, w ∈ wsX0_finishedJobs := by decide +kernel
set_option maxHeartbeats 4000000 in
set_option maxRecDepth 100000 in
theorem c_X0_finishedJobs (l : Launch) (G : va_G) (cI cQ : ClassId) (h : Nat → Nat) (c : CS) (hv : knv c ≤ 6) (hj : knj c ≤ 24) : Met l yX0_finishedJobs wsX0_finishedJobs ({ frames := 2, cells := 0, slots := 0, locals := 42 } : Room) (pPc G cI cQ [.ref (h 0)] ((clT cI h c))) (vp_Si (fun r => r = finF c (knj c))) 0 0 (fun _ => False) := by
  refine pm_of (cc := cX0_finishedJobs) (maxL := 3) (ret := (some .int)) (own := RX0) (by decide) rfl rfl (Nat.le_of_ble_eq_true rfl) rfl ?_
  intro p e s m below meth cd ls hx hb hr hts hown hlocks hml hK hP hl
  refine lv_iconst (v := 0) hx hb dX0_finishedJobs_0 (by decide) ?_
  refine lv_istore_n (lv' := [(1, .int 0), (0, .ref (h 0))]) hx hb dX0_finishedJobs_1 rfl hl (by decide) rfl (fun ls hl => ?_)
  refine lv_iconst (v := 0) hx hb dX0_finishedJobs_2 (by decide) ?_
  refine lv_istore_n (lv' := [(2, .int 0), (1, .int 0), (0, .ref (h 0))]) hx hb dX0_finishedJobs_3 rfl hl (by decide) rfl (fun ls hl => ?_)
  have L4 : ∀ (n4 i4 : Nat), 0 ≤ i4 → i4 ≤ knj c → knj c + 1 ≤ i4 + n4 → ∀ (ls : Array Slot), lv_has ls 3 [(2, .int (nI i4)), (1, .int (finF c i4)), (0, .ref (h 0))] → W p l e ({ frames := 2, cells := 0, slots := 0, locals := 42 } : Room) s m ([.ref (h 0)] : List Value).toArray below meth cd s.heap [] 0 0 (MQ below (vp_Si (fun r => r = finF c (knj c))) ([.ref (h 0)] : List Value).toArray s 0 0 (fun _ => False)) (F0 m 4 ls []) := by
    intro n4
    induction n4 with
    | zero => intro i4 h0 h1 h2; exact absurd h2 (by omega)
    | succ n4 ih4 =>
      intro i4 hlo4 hle4 hin4 ls hl
      refine lv_iload_n hx hb dX0_finishedJobs_4 rfl (lv_at hl 0 rfl) ?_
      refine lv_aload_n hx hb dX0_finishedJobs_5 rfl (lv_at hl 2 rfl) ?_
      refine va_get (D := G) (ci := 0) (v := .int (nI (knj c))) (C := RX0) (T := TX0) (N := 13) hx hb hts in_X0_finishedJobs_X0 hown hK.1 hP 0 rfl rfl 8 (by decide) (hts _ lk_X0_finishedJobs_1) (fun _ h9 => h9) rfl dX0_finishedJobs_6 ?_
      refine lv_icmp_ge (tgt := 29) hx hb dX0_finishedJobs_9 (by decide) (fun c_1 => ?_) (fun c_1 => ?_)
      · skip
        have q_2 : i4 = knj c := by have h9 := (nI_leI (by omega) (by omega)).mp c_1; omega
        subst q_2
        refine lv_iload_n hx hb dX0_finishedJobs_29 rfl (lv_at hl 1 rfl) ?_
        exact p_ret hx hb hr hlocks rfl (by first | rfl | (simp only [finF, if_true, if_false, and_true, true_and, and_false, false_and, or_true, true_or, or_false, false_or, not_true_eq_false, not_false_eq_true, ne_eq, ite_true, ite_false]) | (simp only [finF, if_true, if_false, and_true, true_and, and_false, false_and, or_true, true_or, or_false, false_or, not_true_eq_false, not_false_eq_true, ne_eq, ite_true, ite_false]; rfl)) dX0_finishedJobs_30
      · skip
        have hlt4 : i4 < knj c := Nat.lt_of_not_le (fun q => c_1 ((nI_leI (by omega) (by omega)).mpr q))
        refine lv_aload_n hx hb dX0_finishedJobs_12 rfl (lv_at hl 2 rfl) ?_
        refine lv_iload_n hx hb dX0_finishedJobs_13 rfl (lv_at hl 0 rfl) ?_
        refine pcV (rest := []) ⟨hx, hb, hml, hown, hts⟩ (c_X0_isFinished l G cI cQ h c hv hj (nI i4)) (cwV 1 hts gX0_finishedJobs_X0_isFinished rfl rfl rfl cd_X0_isFinished ⟨Nat.le_of_ble_eq_true rfl, Nat.le_of_ble_eq_true rfl⟩) hK hP [0, 1, 2, 3, 4, 5, 6] rfl 0 rfl rfl rfl rfl hl.1 rfl (Nat.le_of_ble_eq_true rfl) dX0_finishedJobs_14 ⟨Nat.zero_le _, Nat.zero_le _⟩ ?_
        refine lv_if_eq (tgt := 23) hx hb dX0_finishedJobs_17 (by decide) (fun c_3 => ?_) (fun c_3 => ?_)
        · skip
          have c_3 := bI_0.mp c_3
          refine lv_iinc (v := (nI (i4 + 1))) (lv' := [(2, .int (nI (i4 + 1))), (1, .int (finF c i4)), (0, .ref (h 0))]) hx hb dX0_finishedJobs_23 hl (k := 0) rfl (nI_1 i4) (by decide) rfl (fun ls hl => ?_)
          refine lv_goto (tgt := 4) hx hb dX0_finishedJobs_26 (by decide) ?_
          have e_4 : (finF c (i4 + 1)) = (finF c i4) := by first | rfl | (simp only [finF, eq_false c_3, if_true, if_false, and_true, true_and, and_false, false_and, or_true, true_or, or_false, false_or, not_true_eq_false, not_false_eq_true, ne_eq, ite_true, ite_false]) | (simp only [finF, eq_false c_3, if_true, if_false, and_true, true_and, and_false, false_and, or_true, true_or, or_false, false_or, not_true_eq_false, not_false_eq_true, ne_eq, ite_true, ite_false]; rfl)
          exact ih4 (i4 + 1) (by omega) (by omega) (by omega) ls (by rw [e_4]; exact lv_sub hl [0, 1, 2] rfl)
        · skip
          have c_3 := bI_n0.mp c_3
          refine lv_iinc (v := ((finF c i4) + 1)) (lv' := [(1, .int ((finF c i4) + 1)), (2, .int (nI i4)), (0, .ref (h 0))]) hx hb dX0_finishedJobs_20 hl (k := 1) rfl rfl (by decide) rfl (fun ls hl => ?_)
          refine lv_iinc (v := (nI (i4 + 1))) (lv' := [(2, .int (nI (i4 + 1))), (1, .int ((finF c i4) + 1)), (0, .ref (h 0))]) hx hb dX0_finishedJobs_23 hl (k := 1) rfl (nI_1 i4) (by decide) rfl (fun ls hl => ?_)
          refine lv_goto (tgt := 4) hx hb dX0_finishedJobs_26 (by decide) ?_
          have e_5 : (finF c (i4 + 1)) = ((finF c i4) + 1) := by first | rfl | (simp only [finF, eq_true c_3, if_true, if_false, and_true, true_and, and_false, false_and, or_true, true_or, or_false, false_or, not_true_eq_false, not_false_eq_true, ne_eq, ite_true, ite_false]) | (simp only [finF, eq_true c_3, if_true, if_false, and_true, true_and, and_false, false_and, or_true, true_or, or_false, false_or, not_true_eq_false, not_false_eq_true, ne_eq, ite_true, ite_false]; rfl)
          exact ih4 (i4 + 1) (by omega) (by omega) (by omega) ls (by rw [e_5]; exact lv_sub hl [0, 1, 2] rfl)
  have e_6 : (nI 0) = 0 := by first | rfl | decide
  have e_7 : (finF c 0) = 0 := by first | rfl | (simp only [finF, if_true, if_false, and_true, true_and, and_false, false_and, or_true, true_or, or_false, false_or, not_true_eq_false, not_false_eq_true, ne_eq, ite_true, ite_false]) | (simp only [finF, if_true, if_false, and_true, true_and, and_false, false_and, or_true, true_or, or_false, false_or, not_true_eq_false, not_false_eq_true, ne_eq, ite_true, ite_false]; rfl)
  exact L4 (knj c + 1) 0 (by omega) (by omega) (by omega) ls (by rw [e_6]; rw [e_7]; exact lv_sub hl [0, 1, 2] rfl)
theorem cd_X0_finishedJobs : yX0_finishedJobs.cls = RX0 ∧ yX0_finishedJobs.cls ≠ "java/lang/invoke/MethodHandle" ∧ yX0_finishedJobs.cls ≠ "java/lang/invoke/VarHandle" ∧ (parseMethodDescriptor yX0_finishedJobs.desc).map (fun d => d.parameters.length) = some 0 := by decide +kernel
-- X0_jobsOn
theorem lk_X0_jobsOn_1 : Cond.fieldLink RX0 37 "EvenLoads$Cluster" "jobs" "I" ∈ wsX0_jobsOn := List.mem_of_getElem? (i := 1) (by decide +kernel)
theorem lk_X0_jobsOn_2 : Cond.fieldLink RX0 18 "EvenLoads$Cluster" "places" "[I" ∈ wsX0_jobsOn := List.mem_of_getElem? (i := 2) (by decide +kernel)
theorem lk_X0_jobsOn_3 : Cond.static yX4_at ∈ wsX0_jobsOn := List.mem_of_getElem? (i := 3) (by decide +kernel)
theorem lk_X0_jobsOn_4 : Cond.initialized RX4 ∈ wsX0_jobsOn := List.mem_of_getElem? (i := 4) (by decide +kernel)
theorem in_X0_jobsOn_X0 : ∀ w ∈ wsX00, w ∈ wsX0_jobsOn := by decide +kernel
set_option maxHeartbeats 4000000 in
set_option maxRecDepth 100000 in
theorem c_X0_jobsOn (l : Launch) (G : va_G) (cI cQ : ClassId) (h : Nat → Nat) (c : CS) (hv : knv c ≤ 6) (hj : knj c ≤ 24) (p0 : Int32) : Met l yX0_jobsOn wsX0_jobsOn ({ frames := 1, cells := 0, slots := 0, locals := 21 } : Room) (pPc G cI cQ [.ref (h 0), .int p0] ((clT cI h c))) (vp_Si (fun r => r = sOn c p0)) 0 0 (fun _ => False) := by
  refine pm_of (cc := cX0_jobsOn) (maxL := 4) (ret := (some .int)) (own := RX0) (by decide) rfl rfl (Nat.le_of_ble_eq_true rfl) rfl ?_
  intro p e s m below meth cd ls hx hb hr hts hown hlocks hml hK hP hl
  refine lv_iconst (v := 0) hx hb dX0_jobsOn_0 (by decide) ?_
  refine lv_istore_n (lv' := [(2, .int 0), (0, .ref (h 0)), (1, .int p0)]) hx hb dX0_jobsOn_1 rfl hl (by decide) rfl (fun ls hl => ?_)
  refine lv_iconst (v := 0) hx hb dX0_jobsOn_2 (by decide) ?_
  refine lv_istore_n (lv' := [(3, .int 0), (2, .int 0), (0, .ref (h 0)), (1, .int p0)]) hx hb dX0_jobsOn_3 rfl hl (by decide) rfl (fun ls hl => ?_)
  have L4 : ∀ (n4 i4 : Nat), 0 ≤ i4 → i4 ≤ knj c → knj c + 1 ≤ i4 + n4 → ∀ (ls : Array Slot), lv_has ls 4 [(3, .int (nI i4)), (2, .int (onF c p0 i4)), (0, .ref (h 0)), (1, .int p0)] → W p l e ({ frames := 1, cells := 0, slots := 0, locals := 21 } : Room) s m ([.ref (h 0), .int p0] : List Value).toArray below meth cd s.heap [] 0 0 (MQ below (vp_Si (fun r => r = sOn c p0)) ([.ref (h 0), .int p0] : List Value).toArray s 0 0 (fun _ => False)) (F0 m 4 ls []) := by
    intro n4
    induction n4 with
    | zero => intro i4 h0 h1 h2; exact absurd h2 (by omega)
    | succ n4 ih4 =>
      intro i4 hlo4 hle4 hin4 ls hl
      refine lv_iload_n hx hb dX0_jobsOn_4 rfl (lv_at hl 0 rfl) ?_
      refine lv_aload_n hx hb dX0_jobsOn_5 rfl (lv_at hl 2 rfl) ?_
      refine va_get (D := G) (ci := 0) (v := .int (nI (knj c))) (C := RX0) (T := TX0) (N := 13) hx hb hts in_X0_jobsOn_X0 hown hK.1 hP 0 rfl rfl 8 (by decide) (hts _ lk_X0_jobsOn_1) (fun _ h9 => h9) rfl dX0_jobsOn_6 ?_
      refine lv_icmp_ge (tgt := 36) hx hb dX0_jobsOn_9 (by decide) (fun c_1 => ?_) (fun c_1 => ?_)
      · skip
        have q_2 : i4 = knj c := by have h9 := (nI_leI (by omega) (by omega)).mp c_1; omega
        subst q_2
        refine lv_iload_n hx hb dX0_jobsOn_36 rfl (lv_at hl 1 rfl) ?_
        exact p_ret hx hb hr hlocks rfl (by first | rfl | (simp only [onF, sOn, if_true, if_false, and_true, true_and, and_false, false_and, or_true, true_or, or_false, false_or, not_true_eq_false, not_false_eq_true, ne_eq, ite_true, ite_false]) | (simp only [onF, sOn, if_true, if_false, and_true, true_and, and_false, false_and, or_true, true_or, or_false, false_or, not_true_eq_false, not_false_eq_true, ne_eq, ite_true, ite_false]; rfl)) dX0_jobsOn_37
      · skip
        have hlt4 : i4 < knj c := Nat.lt_of_not_le (fun q => c_1 ((nI_leI (by omega) (by omega)).mpr q))
        refine lv_aload_n hx hb dX0_jobsOn_12 rfl (lv_at hl 2 rfl) ?_
        refine va_get (D := G) (ci := 0) (v := .ref (h 3)) (C := RX0) (T := TX0) (N := 13) hx hb hts in_X0_jobsOn_X0 hown hK.1 hP 0 rfl rfl 2 (by decide) (hts _ lk_X0_jobsOn_2) (fun _ h9 => h9) rfl dX0_jobsOn_13 ?_
        refine lv_iload_n hx hb dX0_jobsOn_16 rfl (lv_at hl 0 rfl) ?_
        refine pcSN (rest := []) ⟨hx, hb, hml, hown, hts⟩ (c_X4_at l G cI cQ (h 3) 24 (kpl c) (nI i4) (by decide)) ⟨va_cnB 2 hts gX0_jobsOn_X4_at_n67 rfl rfl rfl (hK.2.m 6 rfl) (hts _ lk_X0_jobsOn_4) cd_X4_at.2 ⟨Nat.le_of_ble_eq_true rfl, Nat.le_of_ble_eq_true rfl⟩, hts _ lk_X0_jobsOn_3, trivial⟩ hK hP [3] rfl rfl hl.1 rfl (Nat.le_of_ble_eq_true rfl) dX0_jobsOn_17 ⟨Nat.zero_le _, Nat.zero_le _⟩ ?_
        refine lv_iload_n hx hb dX0_jobsOn_20 rfl (lv_at hl 3 rfl) ?_
        refine lv_icmp_ne (tgt := 30) hx hb dX0_jobsOn_21 (by decide) (fun c_3 => ?_) (fun c_3 => ?_)
        · skip
          refine lv_iinc (v := (nI (i4 + 1))) (lv' := [(3, .int (nI (i4 + 1))), (2, .int (onF c p0 i4)), (0, .ref (h 0)), (1, .int p0)]) hx hb dX0_jobsOn_30 hl (k := 0) rfl (nI_1 i4) (by decide) rfl (fun ls hl => ?_)
          refine lv_goto (tgt := 4) hx hb dX0_jobsOn_33 (by decide) ?_
          have e_4 : (onF c p0 (i4 + 1)) = (onF c p0 i4) := by first | rfl | (simp only [onF, sOn, eq_false c_3, eq_false (Ne.symm c_3), if_true, if_false, and_true, true_and, and_false, false_and, or_true, true_or, or_false, false_or, not_true_eq_false, not_false_eq_true, ne_eq, ite_true, ite_false]) | (simp only [onF, sOn, eq_false c_3, eq_false (Ne.symm c_3), if_true, if_false, and_true, true_and, and_false, false_and, or_true, true_or, or_false, false_or, not_true_eq_false, not_false_eq_true, ne_eq, ite_true, ite_false]; rfl)
          exact ih4 (i4 + 1) (by omega) (by omega) (by omega) ls (by rw [e_4]; exact lv_sub hl [0, 1, 2, 3] rfl)
        · skip
          refine lv_iload_n hx hb dX0_jobsOn_24 rfl (lv_at hl 1 rfl) ?_
          refine lv_iconst (v := 1) hx hb dX0_jobsOn_25 (by decide) ?_
          refine lv_iload_n hx hb dX0_jobsOn_26 rfl (lv_at hl 0 rfl) ?_
          refine lv_ishl hx hb dX0_jobsOn_27 ?_
          refine lv_ior hx hb dX0_jobsOn_28 ?_
          refine lv_istore_n (lv' := [(2, .int ((onF c p0 i4) ||| (1 <<< ((nI i4) &&& 31)))), (3, .int (nI i4)), (0, .ref (h 0)), (1, .int p0)]) hx hb dX0_jobsOn_29 rfl hl (by decide) rfl (fun ls hl => ?_)
          refine lv_iinc (v := (nI (i4 + 1))) (lv' := [(3, .int (nI (i4 + 1))), (2, .int ((onF c p0 i4) ||| (1 <<< ((nI i4) &&& 31)))), (0, .ref (h 0)), (1, .int p0)]) hx hb dX0_jobsOn_30 hl (k := 1) rfl (nI_1 i4) (by decide) rfl (fun ls hl => ?_)
          refine lv_goto (tgt := 4) hx hb dX0_jobsOn_33 (by decide) ?_
          have e_5 : (onF c p0 (i4 + 1)) = ((onF c p0 i4) ||| (1 <<< ((nI i4) &&& 31))) := by first | rfl | (simp only [onF, sOn, eq_true c_3, eq_true (Eq.symm c_3), if_true, if_false, and_true, true_and, and_false, false_and, or_true, true_or, or_false, false_or, not_true_eq_false, not_false_eq_true, ne_eq, ite_true, ite_false]) | (simp only [onF, sOn, eq_true c_3, eq_true (Eq.symm c_3), if_true, if_false, and_true, true_and, and_false, false_and, or_true, true_or, or_false, false_or, not_true_eq_false, not_false_eq_true, ne_eq, ite_true, ite_false]; rfl)
          exact ih4 (i4 + 1) (by omega) (by omega) (by omega) ls (by rw [e_5]; exact lv_sub hl [0, 1, 2, 3] rfl)
  have e_6 : (nI 0) = 0 := by first | rfl | decide
  have e_7 : (onF c p0 0) = 0 := by first | rfl | (simp only [onF, sOn, if_true, if_false, and_true, true_and, and_false, false_and, or_true, true_or, or_false, false_or, not_true_eq_false, not_false_eq_true, ne_eq, ite_true, ite_false]) | (simp only [onF, sOn, if_true, if_false, and_true, true_and, and_false, false_and, or_true, true_or, or_false, false_or, not_true_eq_false, not_false_eq_true, ne_eq, ite_true, ite_false]; rfl)
  exact L4 (knj c + 1) 0 (by omega) (by omega) (by omega) ls (by rw [e_6]; rw [e_7]; exact lv_sub hl [0, 1, 2, 3] rfl)
theorem cd_X0_jobsOn : yX0_jobsOn.cls = RX0 ∧ yX0_jobsOn.cls ≠ "java/lang/invoke/MethodHandle" ∧ yX0_jobsOn.cls ≠ "java/lang/invoke/VarHandle" ∧ (parseMethodDescriptor yX0_jobsOn.desc).map (fun d => d.parameters.length) = some 1 := by decide +kernel
-- X0_priceOfAll
theorem lk_X0_priceOfAll_1 : Cond.fieldLink RX0 37 "EvenLoads$Cluster" "jobs" "I" ∈ wsX0_priceOfAll := List.mem_of_getElem? (i := 1) (by decide +kernel)
theorem lk_X0_priceOfAll_2 : Cond.fieldLink RX0 18 "EvenLoads$Cluster" "places" "[I" ∈ wsX0_priceOfAll := List.mem_of_getElem? (i := 2) (by decide +kernel)
theorem lk_X0_priceOfAll_3 : Cond.fieldLink RX0 15 "EvenLoads$Cluster" "prices" "[I" ∈ wsX0_priceOfAll := List.mem_of_getElem? (i := 3) (by decide +kernel)
theorem lk_X0_priceOfAll_4 : Cond.static yX4_at ∈ wsX0_priceOfAll := List.mem_of_getElem? (i := 4) (by decide +kernel)
theorem lk_X0_priceOfAll_5 : Cond.initialized RX4 ∈ wsX0_priceOfAll := List.mem_of_getElem? (i := 5) (by decide +kernel)
theorem in_X0_priceOfAll_X0 : ∀ w ∈ wsX00, w ∈ wsX0_priceOfAll := by decide +kernel
set_option maxHeartbeats 4000000 in
set_option maxRecDepth 100000 in
theorem c_X0_priceOfAll (l : Launch) (G : va_G) (cI cQ : ClassId) (h : Nat → Nat) (c : CS) (hv : knv c ≤ 6) (hj : knj c ≤ 24) (p0 : Int32) : Met l yX0_priceOfAll wsX0_priceOfAll ({ frames := 1, cells := 0, slots := 0, locals := 21 } : Room) (pPc G cI cQ [.ref (h 0), .int p0] ((clT cI h c))) (vp_Si (fun r => r = sPrices c p0)) 0 0 (fun _ => False) := by
  refine pm_of (cc := cX0_priceOfAll) (maxL := 4) (ret := (some .int)) (own := RX0) (by decide) rfl rfl (Nat.le_of_ble_eq_true rfl) rfl ?_
  intro p e s m below meth cd ls hx hb hr hts hown hlocks hml hK hP hl
  refine lv_iconst (v := 0) hx hb dX0_priceOfAll_0 (by decide) ?_
  refine lv_istore_n (lv' := [(2, .int 0), (0, .ref (h 0)), (1, .int p0)]) hx hb dX0_priceOfAll_1 rfl hl (by decide) rfl (fun ls hl => ?_)
  refine lv_iconst (v := 0) hx hb dX0_priceOfAll_2 (by decide) ?_
  refine lv_istore_n (lv' := [(3, .int 0), (2, .int 0), (0, .ref (h 0)), (1, .int p0)]) hx hb dX0_priceOfAll_3 rfl hl (by decide) rfl (fun ls hl => ?_)
  have L4 : ∀ (n4 i4 : Nat), 0 ≤ i4 → i4 ≤ knj c → knj c + 1 ≤ i4 + n4 → ∀ (ls : Array Slot), lv_has ls 4 [(3, .int (nI i4)), (2, .int (prF c p0 i4)), (0, .ref (h 0)), (1, .int p0)] → W p l e ({ frames := 1, cells := 0, slots := 0, locals := 21 } : Room) s m ([.ref (h 0), .int p0] : List Value).toArray below meth cd s.heap [] 0 0 (MQ below (vp_Si (fun r => r = sPrices c p0)) ([.ref (h 0), .int p0] : List Value).toArray s 0 0 (fun _ => False)) (F0 m 4 ls []) := by
    intro n4
    induction n4 with
    | zero => intro i4 h0 h1 h2; exact absurd h2 (by omega)
    | succ n4 ih4 =>
      intro i4 hlo4 hle4 hin4 ls hl
      refine lv_iload_n hx hb dX0_priceOfAll_4 rfl (lv_at hl 0 rfl) ?_
      refine lv_aload_n hx hb dX0_priceOfAll_5 rfl (lv_at hl 2 rfl) ?_
      refine va_get (D := G) (ci := 0) (v := .int (nI (knj c))) (C := RX0) (T := TX0) (N := 13) hx hb hts in_X0_priceOfAll_X0 hown hK.1 hP 0 rfl rfl 8 (by decide) (hts _ lk_X0_priceOfAll_1) (fun _ h9 => h9) rfl dX0_priceOfAll_6 ?_
      refine lv_icmp_ge (tgt := 41) hx hb dX0_priceOfAll_9 (by decide) (fun c_1 => ?_) (fun c_1 => ?_)
      · skip
        have q_2 : i4 = knj c := by have h9 := (nI_leI (by omega) (by omega)).mp c_1; omega
        subst q_2
        refine lv_iload_n hx hb dX0_priceOfAll_41 rfl (lv_at hl 1 rfl) ?_
        exact p_ret hx hb hr hlocks rfl (by first | rfl | (simp only [prF, sPrices, if_true, if_false, and_true, true_and, and_false, false_and, or_true, true_or, or_false, false_or, not_true_eq_false, not_false_eq_true, ne_eq, ite_true, ite_false]) | (simp only [prF, sPrices, if_true, if_false, and_true, true_and, and_false, false_and, or_true, true_or, or_false, false_or, not_true_eq_false, not_false_eq_true, ne_eq, ite_true, ite_false]; rfl)) dX0_priceOfAll_42
      · skip
        have hlt4 : i4 < knj c := Nat.lt_of_not_le (fun q => c_1 ((nI_leI (by omega) (by omega)).mpr q))
        refine lv_aload_n hx hb dX0_priceOfAll_12 rfl (lv_at hl 2 rfl) ?_
        refine va_get (D := G) (ci := 0) (v := .ref (h 3)) (C := RX0) (T := TX0) (N := 13) hx hb hts in_X0_priceOfAll_X0 hown hK.1 hP 0 rfl rfl 2 (by decide) (hts _ lk_X0_priceOfAll_2) (fun _ h9 => h9) rfl dX0_priceOfAll_13 ?_
        refine lv_iload_n hx hb dX0_priceOfAll_16 rfl (lv_at hl 0 rfl) ?_
        refine pcSN (rest := []) ⟨hx, hb, hml, hown, hts⟩ (c_X4_at l G cI cQ (h 3) 24 (kpl c) (nI i4) (by decide)) ⟨va_cnB 2 hts gX0_priceOfAll_X4_at_n67 rfl rfl rfl (hK.2.m 6 rfl) (hts _ lk_X0_priceOfAll_5) cd_X4_at.2 ⟨Nat.le_of_ble_eq_true rfl, Nat.le_of_ble_eq_true rfl⟩, hts _ lk_X0_priceOfAll_4, trivial⟩ hK hP [3] rfl rfl hl.1 rfl (Nat.le_of_ble_eq_true rfl) dX0_priceOfAll_17 ⟨Nat.zero_le _, Nat.zero_le _⟩ ?_
        refine lv_iload_n hx hb dX0_priceOfAll_20 rfl (lv_at hl 3 rfl) ?_
        refine lv_icmp_ne (tgt := 35) hx hb dX0_priceOfAll_21 (by decide) (fun c_3 => ?_) (fun c_3 => ?_)
        · skip
          refine lv_iinc (v := (nI (i4 + 1))) (lv' := [(3, .int (nI (i4 + 1))), (2, .int (prF c p0 i4)), (0, .ref (h 0)), (1, .int p0)]) hx hb dX0_priceOfAll_35 hl (k := 0) rfl (nI_1 i4) (by decide) rfl (fun ls hl => ?_)
          refine lv_goto (tgt := 4) hx hb dX0_priceOfAll_38 (by decide) ?_
          have e_4 : (prF c p0 (i4 + 1)) = (prF c p0 i4) := by first | rfl | (simp only [prF, sPrices, eq_false c_3, eq_false (Ne.symm c_3), if_true, if_false, and_true, true_and, and_false, false_and, or_true, true_or, or_false, false_or, not_true_eq_false, not_false_eq_true, ne_eq, ite_true, ite_false]) | (simp only [prF, sPrices, eq_false c_3, eq_false (Ne.symm c_3), if_true, if_false, and_true, true_and, and_false, false_and, or_true, true_or, or_false, false_or, not_true_eq_false, not_false_eq_true, ne_eq, ite_true, ite_false]; rfl)
          exact ih4 (i4 + 1) (by omega) (by omega) (by omega) ls (by rw [e_4]; exact lv_sub hl [0, 1, 2, 3] rfl)
        · skip
          refine lv_iload_n hx hb dX0_priceOfAll_24 rfl (lv_at hl 1 rfl) ?_
          refine lv_aload_n hx hb dX0_priceOfAll_25 rfl (lv_at hl 2 rfl) ?_
          refine va_get (D := G) (ci := 0) (v := .ref (h 2)) (C := RX0) (T := TX0) (N := 13) hx hb hts in_X0_priceOfAll_X0 hown hK.1 hP 0 rfl rfl 1 (by decide) (hts _ lk_X0_priceOfAll_3) (fun _ h9 => h9) rfl dX0_priceOfAll_26 ?_
          refine lv_iload_n hx hb dX0_priceOfAll_29 rfl (lv_at hl 0 rfl) ?_
          refine pcSN (rest := [.int (prF c p0 i4)]) ⟨hx, hb, hml, hown, hts⟩ (c_X4_at l G cI cQ (h 2) 24 (kpr c) (nI i4) (by decide)) ⟨va_cnB 2 hts gX0_priceOfAll_X4_at_n67 rfl rfl rfl (hK.2.m 6 rfl) (hts _ lk_X0_priceOfAll_5) cd_X4_at.2 ⟨Nat.le_of_ble_eq_true rfl, Nat.le_of_ble_eq_true rfl⟩, hts _ lk_X0_priceOfAll_4, trivial⟩ hK hP [2] rfl rfl hl.1 rfl (Nat.le_of_ble_eq_true rfl) dX0_priceOfAll_30 ⟨Nat.zero_le _, Nat.zero_le _⟩ ?_
          refine lv_iadd hx hb dX0_priceOfAll_33 ?_
          refine lv_istore_n (lv' := [(2, .int ((prF c p0 i4) + (aT 24 (kpr c) (nI i4)))), (3, .int (nI i4)), (0, .ref (h 0)), (1, .int p0)]) hx hb dX0_priceOfAll_34 rfl hl (by decide) rfl (fun ls hl => ?_)
          refine lv_iinc (v := (nI (i4 + 1))) (lv' := [(3, .int (nI (i4 + 1))), (2, .int ((prF c p0 i4) + (aT 24 (kpr c) (nI i4)))), (0, .ref (h 0)), (1, .int p0)]) hx hb dX0_priceOfAll_35 hl (k := 1) rfl (nI_1 i4) (by decide) rfl (fun ls hl => ?_)
          refine lv_goto (tgt := 4) hx hb dX0_priceOfAll_38 (by decide) ?_
          have e_5 : (prF c p0 (i4 + 1)) = ((prF c p0 i4) + (aT 24 (kpr c) (nI i4))) := by first | rfl | (simp only [prF, sPrices, eq_true c_3, eq_true (Eq.symm c_3), if_true, if_false, and_true, true_and, and_false, false_and, or_true, true_or, or_false, false_or, not_true_eq_false, not_false_eq_true, ne_eq, ite_true, ite_false]) | (simp only [prF, sPrices, eq_true c_3, eq_true (Eq.symm c_3), if_true, if_false, and_true, true_and, and_false, false_and, or_true, true_or, or_false, false_or, not_true_eq_false, not_false_eq_true, ne_eq, ite_true, ite_false]; rfl)
          exact ih4 (i4 + 1) (by omega) (by omega) (by omega) ls (by rw [e_5]; exact lv_sub hl [0, 1, 2, 3] rfl)
  have e_6 : (nI 0) = 0 := by first | rfl | decide
  have e_7 : (prF c p0 0) = 0 := by first | rfl | (simp only [prF, sPrices, if_true, if_false, and_true, true_and, and_false, false_and, or_true, true_or, or_false, false_or, not_true_eq_false, not_false_eq_true, ne_eq, ite_true, ite_false]) | (simp only [prF, sPrices, if_true, if_false, and_true, true_and, and_false, false_and, or_true, true_or, or_false, false_or, not_true_eq_false, not_false_eq_true, ne_eq, ite_true, ite_false]; rfl)
  exact L4 (knj c + 1) 0 (by omega) (by omega) (by omega) ls (by rw [e_6]; rw [e_7]; exact lv_sub hl [0, 1, 2, 3] rfl)
theorem cd_X0_priceOfAll : yX0_priceOfAll.cls = RX0 ∧ yX0_priceOfAll.cls ≠ "java/lang/invoke/MethodHandle" ∧ yX0_priceOfAll.cls ≠ "java/lang/invoke/VarHandle" ∧ (parseMethodDescriptor yX0_priceOfAll.desc).map (fun d => d.parameters.length) = some 1 := by decide +kernel
-- X0_jobsLeavingBefore
theorem lk_X0_jobsLeavingBefore_1 : Cond.fieldLink RX0 37 "EvenLoads$Cluster" "jobs" "I" ∈ wsX0_jobsLeavingBefore := List.mem_of_getElem? (i := 1) (by decide +kernel)
theorem lk_X0_jobsLeavingBefore_2 : Cond.fieldLink RX0 18 "EvenLoads$Cluster" "places" "[I" ∈ wsX0_jobsLeavingBefore := List.mem_of_getElem? (i := 2) (by decide +kernel)
theorem lk_X0_jobsLeavingBefore_3 : Cond.static yX4_at ∈ wsX0_jobsLeavingBefore := List.mem_of_getElem? (i := 3) (by decide +kernel)
theorem lk_X0_jobsLeavingBefore_4 : Cond.initialized RX4 ∈ wsX0_jobsLeavingBefore := List.mem_of_getElem? (i := 4) (by decide +kernel)
theorem in_X0_jobsLeavingBefore_X0 : ∀ w ∈ wsX00, w ∈ wsX0_jobsLeavingBefore := by decide +kernel
set_option maxHeartbeats 4000000 in
set_option maxRecDepth 100000 in
theorem c_X0_jobsLeavingBefore (l : Launch) (G : va_G) (cI cQ : ClassId) (h : Nat → Nat) (c : CS) (hv : knv c ≤ 6) (hj : knj c ≤ 24) (p0 : Int32) : Met l yX0_jobsLeavingBefore wsX0_jobsLeavingBefore ({ frames := 2, cells := 0, slots := 0, locals := 43 } : Room) (pPc G cI cQ [.ref (h 0), .int p0] ((clT cI h c))) (vp_Si (fun r => r = sBf c p0)) 0 0 (fun _ => False) := by
  refine pm_of (cc := cX0_jobsLeavingBefore) (maxL := 4) (ret := (some .int)) (own := RX0) (by decide) rfl rfl (Nat.le_of_ble_eq_true rfl) rfl ?_
  intro p e s m below meth cd ls hx hb hr hts hown hlocks hml hK hP hl
  refine lv_iconst (v := 0) hx hb dX0_jobsLeavingBefore_0 (by decide) ?_
  refine lv_istore_n (lv' := [(2, .int 0), (0, .ref (h 0)), (1, .int p0)]) hx hb dX0_jobsLeavingBefore_1 rfl hl (by decide) rfl (fun ls hl => ?_)
  refine lv_iconst (v := 0) hx hb dX0_jobsLeavingBefore_2 (by decide) ?_
  refine lv_istore_n (lv' := [(3, .int 0), (2, .int 0), (0, .ref (h 0)), (1, .int p0)]) hx hb dX0_jobsLeavingBefore_3 rfl hl (by decide) rfl (fun ls hl => ?_)
  have L4 : ∀ (n4 i4 : Nat), 0 ≤ i4 → i4 ≤ knj c → knj c + 1 ≤ i4 + n4 → ∀ (ls : Array Slot), lv_has ls 4 [(3, .int (nI i4)), (2, .int (bfF c p0 i4)), (0, .ref (h 0)), (1, .int p0)] → W p l e ({ frames := 2, cells := 0, slots := 0, locals := 43 } : Room) s m ([.ref (h 0), .int p0] : List Value).toArray below meth cd s.heap [] 0 0 (MQ below (vp_Si (fun r => r = sBf c p0)) ([.ref (h 0), .int p0] : List Value).toArray s 0 0 (fun _ => False)) (F0 m 4 ls []) := by
    intro n4
    induction n4 with
    | zero => intro i4 h0 h1 h2; exact absurd h2 (by omega)
    | succ n4 ih4 =>
      intro i4 hlo4 hle4 hin4 ls hl
      refine lv_iload_n hx hb dX0_jobsLeavingBefore_4 rfl (lv_at hl 0 rfl) ?_
      refine lv_aload_n hx hb dX0_jobsLeavingBefore_5 rfl (lv_at hl 2 rfl) ?_
      refine va_get (D := G) (ci := 0) (v := .int (nI (knj c))) (C := RX0) (T := TX0) (N := 13) hx hb hts in_X0_jobsLeavingBefore_X0 hown hK.1 hP 0 rfl rfl 8 (by decide) (hts _ lk_X0_jobsLeavingBefore_1) (fun _ h9 => h9) rfl dX0_jobsLeavingBefore_6 ?_
      refine lv_icmp_ge (tgt := 49) hx hb dX0_jobsLeavingBefore_9 (by decide) (fun c_1 => ?_) (fun c_1 => ?_)
      · skip
        have q_2 : i4 = knj c := by have h9 := (nI_leI (by omega) (by omega)).mp c_1; omega
        subst q_2
        refine lv_iload_n hx hb dX0_jobsLeavingBefore_49 rfl (lv_at hl 1 rfl) ?_
        exact p_ret hx hb hr hlocks rfl (by first | rfl | (simp only [bfF, sBf, if_true, if_false, and_true, true_and, and_false, false_and, or_true, true_or, or_false, false_or, not_true_eq_false, not_false_eq_true, ne_eq, ite_true, ite_false]) | (simp only [bfF, sBf, if_true, if_false, and_true, true_and, and_false, false_and, or_true, true_or, or_false, false_or, not_true_eq_false, not_false_eq_true, ne_eq, ite_true, ite_false]; rfl)) dX0_jobsLeavingBefore_50
      · skip
        have hlt4 : i4 < knj c := Nat.lt_of_not_le (fun q => c_1 ((nI_leI (by omega) (by omega)).mpr q))
        refine lv_aload_n hx hb dX0_jobsLeavingBefore_12 rfl (lv_at hl 2 rfl) ?_
        refine va_get (D := G) (ci := 0) (v := .ref (h 3)) (C := RX0) (T := TX0) (N := 13) hx hb hts in_X0_jobsLeavingBefore_X0 hown hK.1 hP 0 rfl rfl 2 (by decide) (hts _ lk_X0_jobsLeavingBefore_2) (fun _ h9 => h9) rfl dX0_jobsLeavingBefore_13 ?_
        refine lv_iload_n hx hb dX0_jobsLeavingBefore_16 rfl (lv_at hl 0 rfl) ?_
        refine pcSN (rest := []) ⟨hx, hb, hml, hown, hts⟩ (c_X4_at l G cI cQ (h 3) 24 (kpl c) (nI i4) (by decide)) ⟨va_cnB 2 hts gX0_jobsLeavingBefore_X4_at_n67 rfl rfl rfl (hK.2.m 6 rfl) (hts _ lk_X0_jobsLeavingBefore_4) cd_X4_at.2 ⟨Nat.le_of_ble_eq_true rfl, Nat.le_of_ble_eq_true rfl⟩, hts _ lk_X0_jobsLeavingBefore_3, trivial⟩ hK hP [3] rfl rfl hl.1 rfl (Nat.le_of_ble_eq_true rfl) dX0_jobsLeavingBefore_17 ⟨Nat.zero_le _, Nat.zero_le _⟩ ?_
        refine lv_aload_n hx hb dX0_jobsLeavingBefore_20 rfl (lv_at hl 2 rfl) ?_
        refine va_get (D := G) (ci := 0) (v := .ref (h 3)) (C := RX0) (T := TX0) (N := 13) hx hb hts in_X0_jobsLeavingBefore_X0 hown hK.1 hP 0 rfl rfl 2 (by decide) (hts _ lk_X0_jobsLeavingBefore_2) (fun _ h9 => h9) rfl dX0_jobsLeavingBefore_21 ?_
        refine lv_iload_n hx hb dX0_jobsLeavingBefore_24 rfl (lv_at hl 3 rfl) ?_
        refine pcSN (rest := [.int (aT 24 (kpl c) (nI i4))]) ⟨hx, hb, hml, hown, hts⟩ (c_X4_at l G cI cQ (h 3) 24 (kpl c) p0 (by decide)) ⟨va_cnB 2 hts gX0_jobsLeavingBefore_X4_at_n67 rfl rfl rfl (hK.2.m 6 rfl) (hts _ lk_X0_jobsLeavingBefore_4) cd_X4_at.2 ⟨Nat.le_of_ble_eq_true rfl, Nat.le_of_ble_eq_true rfl⟩, hts _ lk_X0_jobsLeavingBefore_3, trivial⟩ hK hP [3] rfl rfl hl.1 rfl (Nat.le_of_ble_eq_true rfl) dX0_jobsLeavingBefore_25 ⟨Nat.zero_le _, Nat.zero_le _⟩ ?_
        refine lv_icmp_ne (tgt := 43) hx hb dX0_jobsLeavingBefore_28 (by decide) (fun c_3 => ?_) (fun c_3 => ?_)
        · skip
          refine lv_iinc (v := (nI (i4 + 1))) (lv' := [(3, .int (nI (i4 + 1))), (2, .int (bfF c p0 i4)), (0, .ref (h 0)), (1, .int p0)]) hx hb dX0_jobsLeavingBefore_43 hl (k := 0) rfl (nI_1 i4) (by decide) rfl (fun ls hl => ?_)
          refine lv_goto (tgt := 4) hx hb dX0_jobsLeavingBefore_46 (by decide) ?_
          have e_4 : (bfF c p0 (i4 + 1)) = (bfF c p0 i4) := by first | rfl | (simp only [bfF, sBf, eq_false c_3, eq_false (Ne.symm c_3), if_true, if_false, and_true, true_and, and_false, false_and, or_true, true_or, or_false, false_or, not_true_eq_false, not_false_eq_true, ne_eq, ite_true, ite_false]) | (simp only [bfF, sBf, eq_false c_3, eq_false (Ne.symm c_3), if_true, if_false, and_true, true_and, and_false, false_and, or_true, true_or, or_false, false_or, not_true_eq_false, not_false_eq_true, ne_eq, ite_true, ite_false]; rfl)
          exact ih4 (i4 + 1) (by omega) (by omega) (by omega) ls (by rw [e_4]; exact lv_sub hl [0, 1, 2, 3] rfl)
        · skip
          refine lv_aload_n hx hb dX0_jobsLeavingBefore_31 rfl (lv_at hl 2 rfl) ?_
          refine lv_iload_n hx hb dX0_jobsLeavingBefore_32 rfl (lv_at hl 0 rfl) ?_
          refine lv_iload_n hx hb dX0_jobsLeavingBefore_33 rfl (lv_at hl 3 rfl) ?_
          refine pcV (rest := []) ⟨hx, hb, hml, hown, hts⟩ (c_X0_leavesBefore l G cI cQ h c hv hj (nI i4) p0) (cwV 2 hts gX0_jobsLeavingBefore_X0_leavesBefore rfl rfl rfl cd_X0_leavesBefore ⟨Nat.le_of_ble_eq_true rfl, Nat.le_of_ble_eq_true rfl⟩) hK hP [0, 1, 2, 3, 4, 5, 6] rfl 0 rfl rfl rfl rfl hl.1 rfl (Nat.le_of_ble_eq_true rfl) dX0_jobsLeavingBefore_34 ⟨Nat.zero_le _, Nat.zero_le _⟩ ?_
          refine lv_if_eq (tgt := 43) hx hb dX0_jobsLeavingBefore_37 (by decide) (fun c_5 => ?_) (fun c_5 => ?_)
          · skip
            have c_5 := bI_0.mp c_5
            refine lv_iinc (v := (nI (i4 + 1))) (lv' := [(3, .int (nI (i4 + 1))), (2, .int (bfF c p0 i4)), (0, .ref (h 0)), (1, .int p0)]) hx hb dX0_jobsLeavingBefore_43 hl (k := 0) rfl (nI_1 i4) (by decide) rfl (fun ls hl => ?_)
            refine lv_goto (tgt := 4) hx hb dX0_jobsLeavingBefore_46 (by decide) ?_
            have e_6 : (bfF c p0 (i4 + 1)) = (bfF c p0 i4) := by first | rfl | (simp only [bfF, sBf, eq_true c_3, eq_true (Eq.symm c_3), eq_false c_5, if_true, if_false, and_true, true_and, and_false, false_and, or_true, true_or, or_false, false_or, not_true_eq_false, not_false_eq_true, ne_eq, ite_true, ite_false]) | (simp only [bfF, sBf, eq_true c_3, eq_true (Eq.symm c_3), eq_false c_5, if_true, if_false, and_true, true_and, and_false, false_and, or_true, true_or, or_false, false_or, not_true_eq_false, not_false_eq_true, ne_eq, ite_true, ite_false]; rfl)
            exact ih4 (i4 + 1) (by omega) (by omega) (by omega) ls (by rw [e_6]; exact lv_sub hl [0, 1, 2, 3] rfl)
          · skip
            have c_5 := bI_n0.mp c_5
            refine lv_iinc (v := ((bfF c p0 i4) + 1)) (lv' := [(2, .int ((bfF c p0 i4) + 1)), (3, .int (nI i4)), (0, .ref (h 0)), (1, .int p0)]) hx hb dX0_jobsLeavingBefore_40 hl (k := 1) rfl rfl (by decide) rfl (fun ls hl => ?_)
            refine lv_iinc (v := (nI (i4 + 1))) (lv' := [(3, .int (nI (i4 + 1))), (2, .int ((bfF c p0 i4) + 1)), (0, .ref (h 0)), (1, .int p0)]) hx hb dX0_jobsLeavingBefore_43 hl (k := 1) rfl (nI_1 i4) (by decide) rfl (fun ls hl => ?_)
            refine lv_goto (tgt := 4) hx hb dX0_jobsLeavingBefore_46 (by decide) ?_
            have e_7 : (bfF c p0 (i4 + 1)) = ((bfF c p0 i4) + 1) := by first | rfl | (simp only [bfF, sBf, eq_true c_3, eq_true (Eq.symm c_3), eq_true c_5, if_true, if_false, and_true, true_and, and_false, false_and, or_true, true_or, or_false, false_or, not_true_eq_false, not_false_eq_true, ne_eq, ite_true, ite_false]) | (simp only [bfF, sBf, eq_true c_3, eq_true (Eq.symm c_3), eq_true c_5, if_true, if_false, and_true, true_and, and_false, false_and, or_true, true_or, or_false, false_or, not_true_eq_false, not_false_eq_true, ne_eq, ite_true, ite_false]; rfl)
            exact ih4 (i4 + 1) (by omega) (by omega) (by omega) ls (by rw [e_7]; exact lv_sub hl [0, 1, 2, 3] rfl)
  have e_8 : (nI 0) = 0 := by first | rfl | decide
  have e_9 : (bfF c p0 0) = 0 := by first | rfl | (simp only [bfF, sBf, if_true, if_false, and_true, true_and, and_false, false_and, or_true, true_or, or_false, false_or, not_true_eq_false, not_false_eq_true, ne_eq, ite_true, ite_false]) | (simp only [bfF, sBf, if_true, if_false, and_true, true_and, and_false, false_and, or_true, true_or, or_false, false_or, not_true_eq_false, not_false_eq_true, ne_eq, ite_true, ite_false]; rfl)
  exact L4 (knj c + 1) 0 (by omega) (by omega) (by omega) ls (by rw [e_8]; rw [e_9]; exact lv_sub hl [0, 1, 2, 3] rfl)
theorem cd_X0_jobsLeavingBefore : yX0_jobsLeavingBefore.cls = RX0 ∧ yX0_jobsLeavingBefore.cls ≠ "java/lang/invoke/MethodHandle" ∧ yX0_jobsLeavingBefore.cls ≠ "java/lang/invoke/VarHandle" ∧ (parseMethodDescriptor yX0_jobsLeavingBefore.desc).map (fun d => d.parameters.length) = some 1 := by decide +kernel
-- X0_leavingJob
theorem lk_X0_leavingJob_1 : Cond.fieldLink RX0 37 "EvenLoads$Cluster" "jobs" "I" ∈ wsX0_leavingJob := List.mem_of_getElem? (i := 1) (by decide +kernel)
theorem lk_X0_leavingJob_2 : Cond.fieldLink RX0 18 "EvenLoads$Cluster" "places" "[I" ∈ wsX0_leavingJob := List.mem_of_getElem? (i := 2) (by decide +kernel)
theorem lk_X0_leavingJob_3 : Cond.static yX4_at ∈ wsX0_leavingJob := List.mem_of_getElem? (i := 3) (by decide +kernel)
theorem lk_X0_leavingJob_4 : Cond.initialized RX4 ∈ wsX0_leavingJob := List.mem_of_getElem? (i := 4) (by decide +kernel)
theorem in_X0_leavingJob_X0 : ∀ w ∈ wsX00, w ∈ wsX0_leavingJob := by decide +kernel
set_option maxHeartbeats 4000000 in
set_option maxRecDepth 100000 in
theorem c_X0_leavingJob (l : Launch) (G : va_G) (cI cQ : ClassId) (h : Nat → Nat) (c : CS) (hv : knv c ≤ 6) (hj : knj c ≤ 24) (p0 : Int32) (p1 : Int32) : Met l yX0_leavingJob wsX0_leavingJob ({ frames := 3, cells := 0, slots := 0, locals := 66 } : Room) (pPc G cI cQ [.ref (h 0), .int p0, .int p1] ((clT cI h c))) (vp_Si (fun r => r = sLeaving c p0 p1)) 0 0 (fun _ => False) := by
  refine pm_of (cc := cX0_leavingJob) (maxL := 4) (ret := (some .int)) (own := RX0) (by decide) rfl rfl (Nat.le_of_ble_eq_true rfl) rfl ?_
  intro p e s m below meth cd ls hx hb hr hts hown hlocks hml hK hP hl
  refine lv_iconst (v := 0) hx hb dX0_leavingJob_0 (by decide) ?_
  refine lv_istore_n (lv' := [(3, .int 0), (0, .ref (h 0)), (1, .int p0), (2, .int p1)]) hx hb dX0_leavingJob_1 rfl hl (by decide) rfl (fun ls hl => ?_)
  have L2 : ∀ (n2 i2 : Nat), 0 ≤ i2 → i2 ≤ knj c → knj c + 1 ≤ i2 + n2 → sLeaving c p0 p1 = lvF c p0 p1 (knj c - i2) i2 → ∀ (ls : Array Slot), lv_has ls 4 [(3, .int (nI i2)), (0, .ref (h 0)), (1, .int p0), (2, .int p1)] → W p l e ({ frames := 3, cells := 0, slots := 0, locals := 66 } : Room) s m ([.ref (h 0), .int p0, .int p1] : List Value).toArray below meth cd s.heap [] 0 0 (MQ below (vp_Si (fun r => r = sLeaving c p0 p1)) ([.ref (h 0), .int p0, .int p1] : List Value).toArray s 0 0 (fun _ => False)) (F0 m 2 ls []) := by
    intro n2
    induction n2 with
    | zero => intro i2 h0 h1 h2; exact absurd h2 (by omega)
    | succ n2 ih2 =>
      intro i2 hlo2 hle2 hin2 hinv ls hl
      refine lv_iload_n hx hb dX0_leavingJob_2 rfl (lv_at hl 0 rfl) ?_
      refine lv_aload_n hx hb dX0_leavingJob_3 rfl (lv_at hl 1 rfl) ?_
      refine va_get (D := G) (ci := 0) (v := .int (nI (knj c))) (C := RX0) (T := TX0) (N := 13) hx hb hts in_X0_leavingJob_X0 hown hK.1 hP 0 rfl rfl 8 (by decide) (hts _ lk_X0_leavingJob_1) (fun _ h9 => h9) rfl dX0_leavingJob_4 ?_
      refine lv_icmp_ge (tgt := 39) hx hb dX0_leavingJob_7 (by decide) (fun c_1 => ?_) (fun c_1 => ?_)
      · skip
        have q_2 : i2 = knj c := by have h9 := (nI_leI (by omega) (by omega)).mp c_1; omega
        subst q_2
        refine lv_bipush (v := (-9)) hx hb dX0_leavingJob_39 (by decide) ?_
        exact p_ret hx hb hr hlocks rfl (by rw [hinv, Nat.sub_self]; rfl) dX0_leavingJob_41
      · skip
        have hlt2 : i2 < knj c := Nat.lt_of_not_le (fun q => c_1 ((nI_leI (by omega) (by omega)).mpr q))
        refine lv_aload_n hx hb dX0_leavingJob_10 rfl (lv_at hl 1 rfl) ?_
        refine va_get (D := G) (ci := 0) (v := .ref (h 3)) (C := RX0) (T := TX0) (N := 13) hx hb hts in_X0_leavingJob_X0 hown hK.1 hP 0 rfl rfl 2 (by decide) (hts _ lk_X0_leavingJob_2) (fun _ h9 => h9) rfl dX0_leavingJob_11 ?_
        refine lv_iload_n hx hb dX0_leavingJob_14 rfl (lv_at hl 0 rfl) ?_
        refine pcSN (rest := []) ⟨hx, hb, hml, hown, hts⟩ (c_X4_at l G cI cQ (h 3) 24 (kpl c) (nI i2) (by decide)) ⟨va_cnB 2 hts gX0_leavingJob_X4_at_n67 rfl rfl rfl (hK.2.m 6 rfl) (hts _ lk_X0_leavingJob_4) cd_X4_at.2 ⟨Nat.le_of_ble_eq_true rfl, Nat.le_of_ble_eq_true rfl⟩, hts _ lk_X0_leavingJob_3, trivial⟩ hK hP [3] rfl rfl hl.1 rfl (Nat.le_of_ble_eq_true rfl) dX0_leavingJob_15 ⟨Nat.zero_le _, Nat.zero_le _⟩ ?_
        refine lv_iload_n hx hb dX0_leavingJob_18 rfl (lv_at hl 2 rfl) ?_
        refine lv_icmp_ne (tgt := 33) hx hb dX0_leavingJob_19 (by decide) (fun c_3 => ?_) (fun c_3 => ?_)
        · skip
          refine lv_iinc (v := (nI (i2 + 1))) (lv' := [(3, .int (nI (i2 + 1))), (0, .ref (h 0)), (1, .int p0), (2, .int p1)]) hx hb dX0_leavingJob_33 hl (k := 0) rfl (nI_1 i2) (by decide) rfl (fun ls hl => ?_)
          refine lv_goto (tgt := 2) hx hb dX0_leavingJob_36 (by decide) ?_
          have y_4 : sLeaving c p0 p1 = lvF c p0 p1 (knj c - (i2 + 1)) (i2 + 1) := by
            have h8 : knj c - i2 = (knj c - (i2 + 1)) + 1 := by omega
            rw [hinv, h8, lvF, if_neg (fun h => by first | exact absurd h.1 c_3 | exact absurd h.2 c_3)]
          exact ih2 (i2 + 1) (by omega) (by omega) (by omega) y_4 ls (by exact lv_sub hl [0, 1, 2, 3] rfl)
        · skip
          refine lv_aload_n hx hb dX0_leavingJob_22 rfl (lv_at hl 1 rfl) ?_
          refine lv_iload_n hx hb dX0_leavingJob_23 rfl (lv_at hl 0 rfl) ?_
          refine pcV (rest := []) ⟨hx, hb, hml, hown, hts⟩ (c_X0_jobsLeavingBefore l G cI cQ h c hv hj (nI i2)) (cwV 1 hts gX0_leavingJob_X0_jobsLeavingBefore rfl rfl rfl cd_X0_jobsLeavingBefore ⟨Nat.le_of_ble_eq_true rfl, Nat.le_of_ble_eq_true rfl⟩) hK hP [0, 1, 2, 3, 4, 5, 6] rfl 0 rfl rfl rfl rfl hl.1 rfl (Nat.le_of_ble_eq_true rfl) dX0_leavingJob_24 ⟨Nat.zero_le _, Nat.zero_le _⟩ ?_
          refine lv_iload_n hx hb dX0_leavingJob_27 rfl (lv_at hl 3 rfl) ?_
          refine lv_icmp_ne (tgt := 33) hx hb dX0_leavingJob_28 (by decide) (fun c_5 => ?_) (fun c_5 => ?_)
          · skip
            refine lv_iinc (v := (nI (i2 + 1))) (lv' := [(3, .int (nI (i2 + 1))), (0, .ref (h 0)), (1, .int p0), (2, .int p1)]) hx hb dX0_leavingJob_33 hl (k := 0) rfl (nI_1 i2) (by decide) rfl (fun ls hl => ?_)
            refine lv_goto (tgt := 2) hx hb dX0_leavingJob_36 (by decide) ?_
            have y_6 : sLeaving c p0 p1 = lvF c p0 p1 (knj c - (i2 + 1)) (i2 + 1) := by
              have h8 : knj c - i2 = (knj c - (i2 + 1)) + 1 := by omega
              rw [hinv, h8, lvF, if_neg (fun h => by first | exact absurd h.1 c_5 | exact absurd h.2 c_5)]
            exact ih2 (i2 + 1) (by omega) (by omega) (by omega) y_6 ls (by exact lv_sub hl [0, 1, 2, 3] rfl)
          · skip
            refine lv_iload_n hx hb dX0_leavingJob_31 rfl (lv_at hl 0 rfl) ?_
            exact p_ret hx hb hr hlocks rfl (by rw [hinv, show knj c - i2 = (knj c - (i2 + 1)) + 1 from by omega, lvF, if_pos ⟨c_3, c_5⟩]) dX0_leavingJob_32
  have e_7 : (nI 0) = 0 := by first | rfl | decide
  exact L2 (knj c + 1) 0 (by omega) (by omega) (by omega) (by rw [Nat.sub_zero]; rfl) ls (by rw [e_7]; exact lv_sub hl [0, 1, 2, 3] rfl)
theorem cd_X0_leavingJob : yX0_leavingJob.cls = RX0 ∧ yX0_leavingJob.cls ≠ "java/lang/invoke/MethodHandle" ∧ yX0_leavingJob.cls ≠ "java/lang/invoke/VarHandle" ∧ (parseMethodDescriptor yX0_leavingJob.desc).map (fun d => d.parameters.length) = some 2 := by decide +kernel
-- X0_fullestServer
theorem lk_X0_fullestServer_1 : Cond.fieldLink RX0 30 "EvenLoads$Cluster" "servers" "I" ∈ wsX0_fullestServer := List.mem_of_getElem? (i := 1) (by decide +kernel)
theorem lk_X0_fullestServer_2 : Cond.fieldLink RX0 24 "EvenLoads$Cluster" "loads" "[I" ∈ wsX0_fullestServer := List.mem_of_getElem? (i := 2) (by decide +kernel)
theorem lk_X0_fullestServer_3 : Cond.fieldLink RX0 27 "EvenLoads$Cluster" "opened" "[I" ∈ wsX0_fullestServer := List.mem_of_getElem? (i := 3) (by decide +kernel)
theorem lk_X0_fullestServer_4 : Cond.static yX4_at ∈ wsX0_fullestServer := List.mem_of_getElem? (i := 4) (by decide +kernel)
theorem lk_X0_fullestServer_5 : Cond.initialized RX4 ∈ wsX0_fullestServer := List.mem_of_getElem? (i := 5) (by decide +kernel)
theorem in_X0_fullestServer_X0 : ∀ w ∈ wsX00, w ∈ wsX0_fullestServer := by decide +kernel
set_option maxHeartbeats 4000000 in
set_option maxRecDepth 100000 in
theorem c_X0_fullestServer (l : Launch) (G : va_G) (cI cQ : ClassId) (h : Nat → Nat) (c : CS) (hv : knv c ≤ 6) (hj : knj c ≤ 24) : Met l yX0_fullestServer wsX0_fullestServer ({ frames := 1, cells := 0, slots := 0, locals := 21 } : Room) (pPc G cI cQ [.ref (h 0)] ((clT cI h c))) (vp_Si (fun r => r = sFull c)) 0 0 (fun _ => False) := by
  refine pm_of (cc := cX0_fullestServer) (maxL := 4) (ret := (some .int)) (own := RX0) (by decide) rfl rfl (Nat.le_of_ble_eq_true rfl) rfl ?_
  intro p e s m below meth cd ls hx hb hr hts hown hlocks hml hK hP hl
  refine lv_bipush (v := (-9)) hx hb dX0_fullestServer_0 (by decide) ?_
  refine lv_istore_n (lv' := [(1, .int (-9)), (0, .ref (h 0))]) hx hb dX0_fullestServer_2 rfl hl (by decide) rfl (fun ls hl => ?_)
  refine lv_iconst (v := 0) hx hb dX0_fullestServer_3 (by decide) ?_
  refine lv_istore_n (lv' := [(2, .int 0), (1, .int (-9)), (0, .ref (h 0))]) hx hb dX0_fullestServer_4 rfl hl (by decide) rfl (fun ls hl => ?_)
  have L5 : ∀ (n5 i5 : Nat), 0 ≤ i5 → i5 ≤ knv c → knv c + 1 ≤ i5 + n5 → ∀ (ls : Array Slot), lv_has ls 4 [(2, .int (nI i5)), (1, .int (fullF c i5)), (0, .ref (h 0))] → W p l e ({ frames := 1, cells := 0, slots := 0, locals := 21 } : Room) s m ([.ref (h 0)] : List Value).toArray below meth cd s.heap [] 0 0 (MQ below (vp_Si (fun r => r = sFull c)) ([.ref (h 0)] : List Value).toArray s 0 0 (fun _ => False)) (F0 m 5 ls []) := by
    intro n5
    induction n5 with
    | zero => intro i5 h0 h1 h2; exact absurd h2 (by omega)
    | succ n5 ih5 =>
      intro i5 hlo5 hle5 hin5 ls hl
      refine lv_iload_n hx hb dX0_fullestServer_5 rfl (lv_at hl 0 rfl) ?_
      refine lv_aload_n hx hb dX0_fullestServer_6 rfl (lv_at hl 2 rfl) ?_
      refine va_get (D := G) (ci := 0) (v := .int (nI (knv c))) (C := RX0) (T := TX0) (N := 13) hx hb hts in_X0_fullestServer_X0 hown hK.1 hP 0 rfl rfl 6 (by decide) (hts _ lk_X0_fullestServer_1) (fun _ h9 => h9) rfl dX0_fullestServer_7 ?_
      refine lv_icmp_ge (tgt := 68) hx hb dX0_fullestServer_10 (by decide) (fun c_1 => ?_) (fun c_1 => ?_)
      · skip
        have q_2 : i5 = knv c := by have h9 := (nI_leI (by omega) (by omega)).mp c_1; omega
        subst q_2
        refine lv_iload_n hx hb dX0_fullestServer_68 rfl (lv_at hl 1 rfl) ?_
        exact p_ret hx hb hr hlocks rfl (by first | rfl | (simp only [fullF, sFull, if_true, if_false, and_true, true_and, and_false, false_and, or_true, true_or, or_false, false_or, not_true_eq_false, not_false_eq_true, ne_eq, ite_true, ite_false]) | (simp only [fullF, sFull, if_true, if_false, and_true, true_and, and_false, false_and, or_true, true_or, or_false, false_or, not_true_eq_false, not_false_eq_true, ne_eq, ite_true, ite_false]; rfl)) dX0_fullestServer_69
      · skip
        have hlt5 : i5 < knv c := Nat.lt_of_not_le (fun q => c_1 ((nI_leI (by omega) (by omega)).mpr q))
        refine lv_iload_n hx hb dX0_fullestServer_13 rfl (lv_at hl 1 rfl) ?_
        refine lv_bipush (v := (-9)) hx hb dX0_fullestServer_14 (by decide) ?_
        refine lv_icmp_eq (tgt := 38) hx hb dX0_fullestServer_16 (by decide) (fun c_3 => ?_) (fun c_3 => ?_)
        · skip
          refine lv_iconst (v := 1) hx hb dX0_fullestServer_38 (by decide) ?_
          refine lv_goto (tgt := 43) hx hb dX0_fullestServer_39 (by decide) ?_
          refine lv_istore_n (lv' := [(3, .int 1), (2, .int (nI i5)), (1, .int (fullF c i5)), (0, .ref (h 0))]) hx hb dX0_fullestServer_43 rfl hl (by decide) rfl (fun ls hl => ?_)
          refine lv_aload_n hx hb dX0_fullestServer_44 rfl (lv_at hl 3 rfl) ?_
          refine va_get (D := G) (ci := 0) (v := .ref (h 6)) (C := RX0) (T := TX0) (N := 13) hx hb hts in_X0_fullestServer_X0 hown hK.1 hP 0 rfl rfl 5 (by decide) (hts _ lk_X0_fullestServer_3) (fun _ h9 => h9) rfl dX0_fullestServer_45 ?_
          refine lv_iload_n hx hb dX0_fullestServer_48 rfl (lv_at hl 1 rfl) ?_
          refine pcSN (rest := []) ⟨hx, hb, hml, hown, hts⟩ (c_X4_at l G cI cQ (h 6) 6 (kop c) (nI i5) (by decide)) ⟨va_cnB 2 hts gX0_fullestServer_X4_at_n67 rfl rfl rfl (hK.2.m 6 rfl) (hts _ lk_X0_fullestServer_5) cd_X4_at.2 ⟨Nat.le_of_ble_eq_true rfl, Nat.le_of_ble_eq_true rfl⟩, hts _ lk_X0_fullestServer_4, trivial⟩ hK hP [6] rfl rfl hl.1 rfl (Nat.le_of_ble_eq_true rfl) dX0_fullestServer_49 ⟨Nat.zero_le _, Nat.zero_le _⟩ ?_
          refine lv_iconst (v := 1) hx hb dX0_fullestServer_52 (by decide) ?_
          refine lv_icmp_ne (tgt := 62) hx hb dX0_fullestServer_53 (by decide) (fun c_4 => ?_) (fun c_4 => ?_)
          · skip
            refine lv_iinc (v := (nI (i5 + 1))) (lv' := [(2, .int (nI (i5 + 1))), (3, .int 1), (1, .int (fullF c i5)), (0, .ref (h 0))]) hx hb dX0_fullestServer_62 hl (k := 1) rfl (nI_1 i5) (by decide) rfl (fun ls hl => ?_)
            refine lv_goto (tgt := 5) hx hb dX0_fullestServer_65 (by decide) ?_
            have e_5 : (fullF c (i5 + 1)) = (fullF c i5) := by first | rfl | (simp only [fullF, sFull, eq_true c_3, eq_true (Eq.symm c_3), eq_false c_4, eq_false (Ne.symm c_4), if_true, if_false, and_true, true_and, and_false, false_and, or_true, true_or, or_false, false_or, not_true_eq_false, not_false_eq_true, ne_eq, ite_true, ite_false]) | (simp only [fullF, sFull, eq_true c_3, eq_true (Eq.symm c_3), eq_false c_4, eq_false (Ne.symm c_4), if_true, if_false, and_true, true_and, and_false, false_and, or_true, true_or, or_false, false_or, not_true_eq_false, not_false_eq_true, ne_eq, ite_true, ite_false]; rfl)
            exact ih5 (i5 + 1) (by omega) (by omega) (by omega) ls (by rw [e_5]; exact lv_sub hl [0, 2, 3] rfl)
          · skip
            refine lv_iload_n hx hb dX0_fullestServer_56 rfl (lv_at hl 0 rfl) ?_
            refine lv_if_eq (tgt := 62) hx hb dX0_fullestServer_57 (by decide) (fun c_6 => ?_) (fun c_6 => ?_)
            · exact absurd c_6 (by decide)
            refine lv_iload_n hx hb dX0_fullestServer_60 rfl (lv_at hl 1 rfl) ?_
            refine lv_istore_n (lv' := [(1, .int (nI i5)), (3, .int 1), (2, .int (nI i5)), (0, .ref (h 0))]) hx hb dX0_fullestServer_61 rfl hl (by decide) rfl (fun ls hl => ?_)
            refine lv_iinc (v := (nI (i5 + 1))) (lv' := [(2, .int (nI (i5 + 1))), (1, .int (nI i5)), (3, .int 1), (0, .ref (h 0))]) hx hb dX0_fullestServer_62 hl (k := 2) rfl (nI_1 i5) (by decide) rfl (fun ls hl => ?_)
            refine lv_goto (tgt := 5) hx hb dX0_fullestServer_65 (by decide) ?_
            have e_7 : (fullF c (i5 + 1)) = (nI i5) := by first | rfl | (simp only [fullF, sFull, eq_true c_3, eq_true (Eq.symm c_3), eq_true c_4, eq_true (Eq.symm c_4), if_true, if_false, and_true, true_and, and_false, false_and, or_true, true_or, or_false, false_or, not_true_eq_false, not_false_eq_true, ne_eq, ite_true, ite_false]) | (simp only [fullF, sFull, eq_true c_3, eq_true (Eq.symm c_3), eq_true c_4, eq_true (Eq.symm c_4), if_true, if_false, and_true, true_and, and_false, false_and, or_true, true_or, or_false, false_or, not_true_eq_false, not_false_eq_true, ne_eq, ite_true, ite_false]; rfl)
            exact ih5 (i5 + 1) (by omega) (by omega) (by omega) ls (by rw [e_7]; exact lv_sub hl [0, 1, 3] rfl)
        · skip
          refine lv_aload_n hx hb dX0_fullestServer_19 rfl (lv_at hl 2 rfl) ?_
          refine va_get (D := G) (ci := 0) (v := .ref (h 5)) (C := RX0) (T := TX0) (N := 13) hx hb hts in_X0_fullestServer_X0 hown hK.1 hP 0 rfl rfl 4 (by decide) (hts _ lk_X0_fullestServer_2) (fun _ h9 => h9) rfl dX0_fullestServer_20 ?_
          refine lv_iload_n hx hb dX0_fullestServer_23 rfl (lv_at hl 0 rfl) ?_
          refine pcSN (rest := []) ⟨hx, hb, hml, hown, hts⟩ (c_X4_at l G cI cQ (h 5) 6 (kld c) (nI i5) (by decide)) ⟨va_cnB 2 hts gX0_fullestServer_X4_at_n67 rfl rfl rfl (hK.2.m 6 rfl) (hts _ lk_X0_fullestServer_5) cd_X4_at.2 ⟨Nat.le_of_ble_eq_true rfl, Nat.le_of_ble_eq_true rfl⟩, hts _ lk_X0_fullestServer_4, trivial⟩ hK hP [5] rfl rfl hl.1 rfl (Nat.le_of_ble_eq_true rfl) dX0_fullestServer_24 ⟨Nat.zero_le _, Nat.zero_le _⟩ ?_
          refine lv_aload_n hx hb dX0_fullestServer_27 rfl (lv_at hl 2 rfl) ?_
          refine va_get (D := G) (ci := 0) (v := .ref (h 5)) (C := RX0) (T := TX0) (N := 13) hx hb hts in_X0_fullestServer_X0 hown hK.1 hP 0 rfl rfl 4 (by decide) (hts _ lk_X0_fullestServer_2) (fun _ h9 => h9) rfl dX0_fullestServer_28 ?_
          refine lv_iload_n hx hb dX0_fullestServer_31 rfl (lv_at hl 1 rfl) ?_
          refine pcSN (rest := [.int (aT 6 (kld c) (nI i5))]) ⟨hx, hb, hml, hown, hts⟩ (c_X4_at l G cI cQ (h 5) 6 (kld c) (fullF c i5) (by decide)) ⟨va_cnB 2 hts gX0_fullestServer_X4_at_n67 rfl rfl rfl (hK.2.m 6 rfl) (hts _ lk_X0_fullestServer_5) cd_X4_at.2 ⟨Nat.le_of_ble_eq_true rfl, Nat.le_of_ble_eq_true rfl⟩, hts _ lk_X0_fullestServer_4, trivial⟩ hK hP [5] rfl rfl hl.1 rfl (Nat.le_of_ble_eq_true rfl) dX0_fullestServer_32 ⟨Nat.zero_le _, Nat.zero_le _⟩ ?_
          refine lv_icmp_le (tgt := 42) hx hb dX0_fullestServer_35 (by decide) (fun c_8 => ?_) (fun c_8 => ?_)
          · skip
            refine lv_iconst (v := 0) hx hb dX0_fullestServer_42 (by decide) ?_
            refine lv_istore_n (lv' := [(3, .int 0), (2, .int (nI i5)), (1, .int (fullF c i5)), (0, .ref (h 0))]) hx hb dX0_fullestServer_43 rfl hl (by decide) rfl (fun ls hl => ?_)
            refine lv_aload_n hx hb dX0_fullestServer_44 rfl (lv_at hl 3 rfl) ?_
            refine va_get (D := G) (ci := 0) (v := .ref (h 6)) (C := RX0) (T := TX0) (N := 13) hx hb hts in_X0_fullestServer_X0 hown hK.1 hP 0 rfl rfl 5 (by decide) (hts _ lk_X0_fullestServer_3) (fun _ h9 => h9) rfl dX0_fullestServer_45 ?_
            refine lv_iload_n hx hb dX0_fullestServer_48 rfl (lv_at hl 1 rfl) ?_
            refine pcSN (rest := []) ⟨hx, hb, hml, hown, hts⟩ (c_X4_at l G cI cQ (h 6) 6 (kop c) (nI i5) (by decide)) ⟨va_cnB 2 hts gX0_fullestServer_X4_at_n67 rfl rfl rfl (hK.2.m 6 rfl) (hts _ lk_X0_fullestServer_5) cd_X4_at.2 ⟨Nat.le_of_ble_eq_true rfl, Nat.le_of_ble_eq_true rfl⟩, hts _ lk_X0_fullestServer_4, trivial⟩ hK hP [6] rfl rfl hl.1 rfl (Nat.le_of_ble_eq_true rfl) dX0_fullestServer_49 ⟨Nat.zero_le _, Nat.zero_le _⟩ ?_
            refine lv_iconst (v := 1) hx hb dX0_fullestServer_52 (by decide) ?_
            refine lv_icmp_ne (tgt := 62) hx hb dX0_fullestServer_53 (by decide) (fun c_9 => ?_) (fun c_9 => ?_)
            · skip
              refine lv_iinc (v := (nI (i5 + 1))) (lv' := [(2, .int (nI (i5 + 1))), (3, .int 0), (1, .int (fullF c i5)), (0, .ref (h 0))]) hx hb dX0_fullestServer_62 hl (k := 1) rfl (nI_1 i5) (by decide) rfl (fun ls hl => ?_)
              refine lv_goto (tgt := 5) hx hb dX0_fullestServer_65 (by decide) ?_
              have e_10 : (fullF c (i5 + 1)) = (fullF c i5) := by first | rfl | (simp only [fullF, sFull, eq_false c_3, eq_false (Ne.symm c_3), eq_true c_8, eq_false (Int32.not_lt.mpr c_8), eq_false c_9, eq_false (Ne.symm c_9), if_true, if_false, and_true, true_and, and_false, false_and, or_true, true_or, or_false, false_or, not_true_eq_false, not_false_eq_true, ne_eq, ite_true, ite_false]) | (simp only [fullF, sFull, eq_false c_3, eq_false (Ne.symm c_3), eq_true c_8, eq_false (Int32.not_lt.mpr c_8), eq_false c_9, eq_false (Ne.symm c_9), if_true, if_false, and_true, true_and, and_false, false_and, or_true, true_or, or_false, false_or, not_true_eq_false, not_false_eq_true, ne_eq, ite_true, ite_false]; rfl)
              exact ih5 (i5 + 1) (by omega) (by omega) (by omega) ls (by rw [e_10]; exact lv_sub hl [0, 2, 3] rfl)
            · skip
              refine lv_iload_n hx hb dX0_fullestServer_56 rfl (lv_at hl 0 rfl) ?_
              refine lv_if_eq (tgt := 62) hx hb dX0_fullestServer_57 (by decide) (fun c_11 => ?_) (fun c_11 => ?_)
              rotate_left
              · exact absurd c_11 (by decide)
              refine lv_iinc (v := (nI (i5 + 1))) (lv' := [(2, .int (nI (i5 + 1))), (3, .int 0), (1, .int (fullF c i5)), (0, .ref (h 0))]) hx hb dX0_fullestServer_62 hl (k := 1) rfl (nI_1 i5) (by decide) rfl (fun ls hl => ?_)
              refine lv_goto (tgt := 5) hx hb dX0_fullestServer_65 (by decide) ?_
              have e_12 : (fullF c (i5 + 1)) = (fullF c i5) := by first | rfl | (simp only [fullF, sFull, eq_false c_3, eq_false (Ne.symm c_3), eq_true c_8, eq_false (Int32.not_lt.mpr c_8), eq_true c_9, eq_true (Eq.symm c_9), if_true, if_false, and_true, true_and, and_false, false_and, or_true, true_or, or_false, false_or, not_true_eq_false, not_false_eq_true, ne_eq, ite_true, ite_false]) | (simp only [fullF, sFull, eq_false c_3, eq_false (Ne.symm c_3), eq_true c_8, eq_false (Int32.not_lt.mpr c_8), eq_true c_9, eq_true (Eq.symm c_9), if_true, if_false, and_true, true_and, and_false, false_and, or_true, true_or, or_false, false_or, not_true_eq_false, not_false_eq_true, ne_eq, ite_true, ite_false]; rfl)
              exact ih5 (i5 + 1) (by omega) (by omega) (by omega) ls (by rw [e_12]; exact lv_sub hl [0, 2, 3] rfl)
          · skip
            refine lv_iconst (v := 1) hx hb dX0_fullestServer_38 (by decide) ?_
            refine lv_goto (tgt := 43) hx hb dX0_fullestServer_39 (by decide) ?_
            refine lv_istore_n (lv' := [(3, .int 1), (2, .int (nI i5)), (1, .int (fullF c i5)), (0, .ref (h 0))]) hx hb dX0_fullestServer_43 rfl hl (by decide) rfl (fun ls hl => ?_)
            refine lv_aload_n hx hb dX0_fullestServer_44 rfl (lv_at hl 3 rfl) ?_
            refine va_get (D := G) (ci := 0) (v := .ref (h 6)) (C := RX0) (T := TX0) (N := 13) hx hb hts in_X0_fullestServer_X0 hown hK.1 hP 0 rfl rfl 5 (by decide) (hts _ lk_X0_fullestServer_3) (fun _ h9 => h9) rfl dX0_fullestServer_45 ?_
            refine lv_iload_n hx hb dX0_fullestServer_48 rfl (lv_at hl 1 rfl) ?_
            refine pcSN (rest := []) ⟨hx, hb, hml, hown, hts⟩ (c_X4_at l G cI cQ (h 6) 6 (kop c) (nI i5) (by decide)) ⟨va_cnB 2 hts gX0_fullestServer_X4_at_n67 rfl rfl rfl (hK.2.m 6 rfl) (hts _ lk_X0_fullestServer_5) cd_X4_at.2 ⟨Nat.le_of_ble_eq_true rfl, Nat.le_of_ble_eq_true rfl⟩, hts _ lk_X0_fullestServer_4, trivial⟩ hK hP [6] rfl rfl hl.1 rfl (Nat.le_of_ble_eq_true rfl) dX0_fullestServer_49 ⟨Nat.zero_le _, Nat.zero_le _⟩ ?_
            refine lv_iconst (v := 1) hx hb dX0_fullestServer_52 (by decide) ?_
            refine lv_icmp_ne (tgt := 62) hx hb dX0_fullestServer_53 (by decide) (fun c_13 => ?_) (fun c_13 => ?_)
            · skip
              refine lv_iinc (v := (nI (i5 + 1))) (lv' := [(2, .int (nI (i5 + 1))), (3, .int 1), (1, .int (fullF c i5)), (0, .ref (h 0))]) hx hb dX0_fullestServer_62 hl (k := 1) rfl (nI_1 i5) (by decide) rfl (fun ls hl => ?_)
              refine lv_goto (tgt := 5) hx hb dX0_fullestServer_65 (by decide) ?_
              have e_14 : (fullF c (i5 + 1)) = (fullF c i5) := by first | rfl | (simp only [fullF, sFull, eq_false c_3, eq_false (Ne.symm c_3), eq_false c_8, eq_true (Int32.not_le.mp c_8), eq_false c_13, eq_false (Ne.symm c_13), if_true, if_false, and_true, true_and, and_false, false_and, or_true, true_or, or_false, false_or, not_true_eq_false, not_false_eq_true, ne_eq, ite_true, ite_false]) | (simp only [fullF, sFull, eq_false c_3, eq_false (Ne.symm c_3), eq_false c_8, eq_true (Int32.not_le.mp c_8), eq_false c_13, eq_false (Ne.symm c_13), if_true, if_false, and_true, true_and, and_false, false_and, or_true, true_or, or_false, false_or, not_true_eq_false, not_false_eq_true, ne_eq, ite_true, ite_false]; rfl)
              exact ih5 (i5 + 1) (by omega) (by omega) (by omega) ls (by rw [e_14]; exact lv_sub hl [0, 2, 3] rfl)
            · skip
              refine lv_iload_n hx hb dX0_fullestServer_56 rfl (lv_at hl 0 rfl) ?_
              refine lv_if_eq (tgt := 62) hx hb dX0_fullestServer_57 (by decide) (fun c_15 => ?_) (fun c_15 => ?_)
              · exact absurd c_15 (by decide)
              refine lv_iload_n hx hb dX0_fullestServer_60 rfl (lv_at hl 1 rfl) ?_
              refine lv_istore_n (lv' := [(1, .int (nI i5)), (3, .int 1), (2, .int (nI i5)), (0, .ref (h 0))]) hx hb dX0_fullestServer_61 rfl hl (by decide) rfl (fun ls hl => ?_)
              refine lv_iinc (v := (nI (i5 + 1))) (lv' := [(2, .int (nI (i5 + 1))), (1, .int (nI i5)), (3, .int 1), (0, .ref (h 0))]) hx hb dX0_fullestServer_62 hl (k := 2) rfl (nI_1 i5) (by decide) rfl (fun ls hl => ?_)
              refine lv_goto (tgt := 5) hx hb dX0_fullestServer_65 (by decide) ?_
              have e_16 : (fullF c (i5 + 1)) = (nI i5) := by first | rfl | (simp only [fullF, sFull, eq_false c_3, eq_false (Ne.symm c_3), eq_false c_8, eq_true (Int32.not_le.mp c_8), eq_true c_13, eq_true (Eq.symm c_13), if_true, if_false, and_true, true_and, and_false, false_and, or_true, true_or, or_false, false_or, not_true_eq_false, not_false_eq_true, ne_eq, ite_true, ite_false]) | (simp only [fullF, sFull, eq_false c_3, eq_false (Ne.symm c_3), eq_false c_8, eq_true (Int32.not_le.mp c_8), eq_true c_13, eq_true (Eq.symm c_13), if_true, if_false, and_true, true_and, and_false, false_and, or_true, true_or, or_false, false_or, not_true_eq_false, not_false_eq_true, ne_eq, ite_true, ite_false]; rfl)
              exact ih5 (i5 + 1) (by omega) (by omega) (by omega) ls (by rw [e_16]; exact lv_sub hl [0, 1, 3] rfl)
  have e_17 : (nI 0) = 0 := by first | rfl | decide
  have e_18 : (fullF c 0) = (-9) := by first | rfl | (simp only [fullF, sFull, if_true, if_false, and_true, true_and, and_false, false_and, or_true, true_or, or_false, false_or, not_true_eq_false, not_false_eq_true, ne_eq, ite_true, ite_false]) | (simp only [fullF, sFull, if_true, if_false, and_true, true_and, and_false, false_and, or_true, true_or, or_false, false_or, not_true_eq_false, not_false_eq_true, ne_eq, ite_true, ite_false]; rfl)
  exact L5 (knv c + 1) 0 (by omega) (by omega) (by omega) ls (by rw [e_17]; rw [e_18]; exact lv_sub hl [0, 1, 2] rfl)
theorem cd_X0_fullestServer : yX0_fullestServer.cls = RX0 ∧ yX0_fullestServer.cls ≠ "java/lang/invoke/MethodHandle" ∧ yX0_fullestServer.cls ≠ "java/lang/invoke/VarHandle" ∧ (parseMethodDescriptor yX0_fullestServer.desc).map (fun d => d.parameters.length) = some 0 := by decide +kernel
-- X0_emptiestServer
theorem lk_X0_emptiestServer_1 : Cond.fieldLink RX0 30 "EvenLoads$Cluster" "servers" "I" ∈ wsX0_emptiestServer := List.mem_of_getElem? (i := 1) (by decide +kernel)
theorem lk_X0_emptiestServer_2 : Cond.fieldLink RX0 24 "EvenLoads$Cluster" "loads" "[I" ∈ wsX0_emptiestServer := List.mem_of_getElem? (i := 2) (by decide +kernel)
theorem lk_X0_emptiestServer_3 : Cond.fieldLink RX0 27 "EvenLoads$Cluster" "opened" "[I" ∈ wsX0_emptiestServer := List.mem_of_getElem? (i := 3) (by decide +kernel)
theorem lk_X0_emptiestServer_4 : Cond.static yX4_at ∈ wsX0_emptiestServer := List.mem_of_getElem? (i := 4) (by decide +kernel)
theorem lk_X0_emptiestServer_5 : Cond.initialized RX4 ∈ wsX0_emptiestServer := List.mem_of_getElem? (i := 5) (by decide +kernel)
theorem in_X0_emptiestServer_X0 : ∀ w ∈ wsX00, w ∈ wsX0_emptiestServer := by decide +kernel
set_option maxHeartbeats 4000000 in
set_option maxRecDepth 100000 in
theorem c_X0_emptiestServer (l : Launch) (G : va_G) (cI cQ : ClassId) (h : Nat → Nat) (c : CS) (hv : knv c ≤ 6) (hj : knj c ≤ 24) : Met l yX0_emptiestServer wsX0_emptiestServer ({ frames := 1, cells := 0, slots := 0, locals := 21 } : Room) (pPc G cI cQ [.ref (h 0)] ((clT cI h c))) (vp_Si (fun r => r = sEmpty c)) 0 0 (fun _ => False) := by
  refine pm_of (cc := cX0_emptiestServer) (maxL := 4) (ret := (some .int)) (own := RX0) (by decide) rfl rfl (Nat.le_of_ble_eq_true rfl) rfl ?_
  intro p e s m below meth cd ls hx hb hr hts hown hlocks hml hK hP hl
  refine lv_bipush (v := (-9)) hx hb dX0_emptiestServer_0 (by decide) ?_
  refine lv_istore_n (lv' := [(1, .int (-9)), (0, .ref (h 0))]) hx hb dX0_emptiestServer_2 rfl hl (by decide) rfl (fun ls hl => ?_)
  refine lv_iconst (v := 0) hx hb dX0_emptiestServer_3 (by decide) ?_
  refine lv_istore_n (lv' := [(2, .int 0), (1, .int (-9)), (0, .ref (h 0))]) hx hb dX0_emptiestServer_4 rfl hl (by decide) rfl (fun ls hl => ?_)
  have L5 : ∀ (n5 i5 : Nat), 0 ≤ i5 → i5 ≤ knv c → knv c + 1 ≤ i5 + n5 → ∀ (ls : Array Slot), lv_has ls 4 [(2, .int (nI i5)), (1, .int (emptyF c i5)), (0, .ref (h 0))] → W p l e ({ frames := 1, cells := 0, slots := 0, locals := 21 } : Room) s m ([.ref (h 0)] : List Value).toArray below meth cd s.heap [] 0 0 (MQ below (vp_Si (fun r => r = sEmpty c)) ([.ref (h 0)] : List Value).toArray s 0 0 (fun _ => False)) (F0 m 5 ls []) := by
    intro n5
    induction n5 with
    | zero => intro i5 h0 h1 h2; exact absurd h2 (by omega)
    | succ n5 ih5 =>
      intro i5 hlo5 hle5 hin5 ls hl
      refine lv_iload_n hx hb dX0_emptiestServer_5 rfl (lv_at hl 0 rfl) ?_
      refine lv_aload_n hx hb dX0_emptiestServer_6 rfl (lv_at hl 2 rfl) ?_
      refine va_get (D := G) (ci := 0) (v := .int (nI (knv c))) (C := RX0) (T := TX0) (N := 13) hx hb hts in_X0_emptiestServer_X0 hown hK.1 hP 0 rfl rfl 6 (by decide) (hts _ lk_X0_emptiestServer_1) (fun _ h9 => h9) rfl dX0_emptiestServer_7 ?_
      refine lv_icmp_ge (tgt := 68) hx hb dX0_emptiestServer_10 (by decide) (fun c_1 => ?_) (fun c_1 => ?_)
      · skip
        have q_2 : i5 = knv c := by have h9 := (nI_leI (by omega) (by omega)).mp c_1; omega
        subst q_2
        refine lv_iload_n hx hb dX0_emptiestServer_68 rfl (lv_at hl 1 rfl) ?_
        exact p_ret hx hb hr hlocks rfl (by first | rfl | (simp only [emptyF, sEmpty, if_true, if_false, and_true, true_and, and_false, false_and, or_true, true_or, or_false, false_or, not_true_eq_false, not_false_eq_true, ne_eq, ite_true, ite_false]) | (simp only [emptyF, sEmpty, if_true, if_false, and_true, true_and, and_false, false_and, or_true, true_or, or_false, false_or, not_true_eq_false, not_false_eq_true, ne_eq, ite_true, ite_false]; rfl)) dX0_emptiestServer_69
      · skip
        have hlt5 : i5 < knv c := Nat.lt_of_not_le (fun q => c_1 ((nI_leI (by omega) (by omega)).mpr q))
        refine lv_iload_n hx hb dX0_emptiestServer_13 rfl (lv_at hl 1 rfl) ?_
        refine lv_bipush (v := (-9)) hx hb dX0_emptiestServer_14 (by decide) ?_
        refine lv_icmp_eq (tgt := 38) hx hb dX0_emptiestServer_16 (by decide) (fun c_3 => ?_) (fun c_3 => ?_)
        · skip
          refine lv_iconst (v := 1) hx hb dX0_emptiestServer_38 (by decide) ?_
          refine lv_goto (tgt := 43) hx hb dX0_emptiestServer_39 (by decide) ?_
          refine lv_istore_n (lv' := [(3, .int 1), (2, .int (nI i5)), (1, .int (emptyF c i5)), (0, .ref (h 0))]) hx hb dX0_emptiestServer_43 rfl hl (by decide) rfl (fun ls hl => ?_)
          refine lv_aload_n hx hb dX0_emptiestServer_44 rfl (lv_at hl 3 rfl) ?_
          refine va_get (D := G) (ci := 0) (v := .ref (h 6)) (C := RX0) (T := TX0) (N := 13) hx hb hts in_X0_emptiestServer_X0 hown hK.1 hP 0 rfl rfl 5 (by decide) (hts _ lk_X0_emptiestServer_3) (fun _ h9 => h9) rfl dX0_emptiestServer_45 ?_
          refine lv_iload_n hx hb dX0_emptiestServer_48 rfl (lv_at hl 1 rfl) ?_
          refine pcSN (rest := []) ⟨hx, hb, hml, hown, hts⟩ (c_X4_at l G cI cQ (h 6) 6 (kop c) (nI i5) (by decide)) ⟨va_cnB 2 hts gX0_emptiestServer_X4_at_n67 rfl rfl rfl (hK.2.m 6 rfl) (hts _ lk_X0_emptiestServer_5) cd_X4_at.2 ⟨Nat.le_of_ble_eq_true rfl, Nat.le_of_ble_eq_true rfl⟩, hts _ lk_X0_emptiestServer_4, trivial⟩ hK hP [6] rfl rfl hl.1 rfl (Nat.le_of_ble_eq_true rfl) dX0_emptiestServer_49 ⟨Nat.zero_le _, Nat.zero_le _⟩ ?_
          refine lv_iconst (v := 1) hx hb dX0_emptiestServer_52 (by decide) ?_
          refine lv_icmp_ne (tgt := 62) hx hb dX0_emptiestServer_53 (by decide) (fun c_4 => ?_) (fun c_4 => ?_)
          · skip
            refine lv_iinc (v := (nI (i5 + 1))) (lv' := [(2, .int (nI (i5 + 1))), (3, .int 1), (1, .int (emptyF c i5)), (0, .ref (h 0))]) hx hb dX0_emptiestServer_62 hl (k := 1) rfl (nI_1 i5) (by decide) rfl (fun ls hl => ?_)
            refine lv_goto (tgt := 5) hx hb dX0_emptiestServer_65 (by decide) ?_
            have e_5 : (emptyF c (i5 + 1)) = (emptyF c i5) := by first | rfl | (simp only [emptyF, sEmpty, eq_true c_3, eq_true (Eq.symm c_3), eq_false c_4, eq_false (Ne.symm c_4), if_true, if_false, and_true, true_and, and_false, false_and, or_true, true_or, or_false, false_or, not_true_eq_false, not_false_eq_true, ne_eq, ite_true, ite_false]) | (simp only [emptyF, sEmpty, eq_true c_3, eq_true (Eq.symm c_3), eq_false c_4, eq_false (Ne.symm c_4), if_true, if_false, and_true, true_and, and_false, false_and, or_true, true_or, or_false, false_or, not_true_eq_false, not_false_eq_true, ne_eq, ite_true, ite_false]; rfl)
            exact ih5 (i5 + 1) (by omega) (by omega) (by omega) ls (by rw [e_5]; exact lv_sub hl [0, 2, 3] rfl)
          · skip
            refine lv_iload_n hx hb dX0_emptiestServer_56 rfl (lv_at hl 0 rfl) ?_
            refine lv_if_eq (tgt := 62) hx hb dX0_emptiestServer_57 (by decide) (fun c_6 => ?_) (fun c_6 => ?_)
            · exact absurd c_6 (by decide)
            refine lv_iload_n hx hb dX0_emptiestServer_60 rfl (lv_at hl 1 rfl) ?_
            refine lv_istore_n (lv' := [(1, .int (nI i5)), (3, .int 1), (2, .int (nI i5)), (0, .ref (h 0))]) hx hb dX0_emptiestServer_61 rfl hl (by decide) rfl (fun ls hl => ?_)
            refine lv_iinc (v := (nI (i5 + 1))) (lv' := [(2, .int (nI (i5 + 1))), (1, .int (nI i5)), (3, .int 1), (0, .ref (h 0))]) hx hb dX0_emptiestServer_62 hl (k := 2) rfl (nI_1 i5) (by decide) rfl (fun ls hl => ?_)
            refine lv_goto (tgt := 5) hx hb dX0_emptiestServer_65 (by decide) ?_
            have e_7 : (emptyF c (i5 + 1)) = (nI i5) := by first | rfl | (simp only [emptyF, sEmpty, eq_true c_3, eq_true (Eq.symm c_3), eq_true c_4, eq_true (Eq.symm c_4), if_true, if_false, and_true, true_and, and_false, false_and, or_true, true_or, or_false, false_or, not_true_eq_false, not_false_eq_true, ne_eq, ite_true, ite_false]) | (simp only [emptyF, sEmpty, eq_true c_3, eq_true (Eq.symm c_3), eq_true c_4, eq_true (Eq.symm c_4), if_true, if_false, and_true, true_and, and_false, false_and, or_true, true_or, or_false, false_or, not_true_eq_false, not_false_eq_true, ne_eq, ite_true, ite_false]; rfl)
            exact ih5 (i5 + 1) (by omega) (by omega) (by omega) ls (by rw [e_7]; exact lv_sub hl [0, 1, 3] rfl)
        · skip
          refine lv_aload_n hx hb dX0_emptiestServer_19 rfl (lv_at hl 2 rfl) ?_
          refine va_get (D := G) (ci := 0) (v := .ref (h 5)) (C := RX0) (T := TX0) (N := 13) hx hb hts in_X0_emptiestServer_X0 hown hK.1 hP 0 rfl rfl 4 (by decide) (hts _ lk_X0_emptiestServer_2) (fun _ h9 => h9) rfl dX0_emptiestServer_20 ?_
          refine lv_iload_n hx hb dX0_emptiestServer_23 rfl (lv_at hl 0 rfl) ?_
          refine pcSN (rest := []) ⟨hx, hb, hml, hown, hts⟩ (c_X4_at l G cI cQ (h 5) 6 (kld c) (nI i5) (by decide)) ⟨va_cnB 2 hts gX0_emptiestServer_X4_at_n67 rfl rfl rfl (hK.2.m 6 rfl) (hts _ lk_X0_emptiestServer_5) cd_X4_at.2 ⟨Nat.le_of_ble_eq_true rfl, Nat.le_of_ble_eq_true rfl⟩, hts _ lk_X0_emptiestServer_4, trivial⟩ hK hP [5] rfl rfl hl.1 rfl (Nat.le_of_ble_eq_true rfl) dX0_emptiestServer_24 ⟨Nat.zero_le _, Nat.zero_le _⟩ ?_
          refine lv_aload_n hx hb dX0_emptiestServer_27 rfl (lv_at hl 2 rfl) ?_
          refine va_get (D := G) (ci := 0) (v := .ref (h 5)) (C := RX0) (T := TX0) (N := 13) hx hb hts in_X0_emptiestServer_X0 hown hK.1 hP 0 rfl rfl 4 (by decide) (hts _ lk_X0_emptiestServer_2) (fun _ h9 => h9) rfl dX0_emptiestServer_28 ?_
          refine lv_iload_n hx hb dX0_emptiestServer_31 rfl (lv_at hl 1 rfl) ?_
          refine pcSN (rest := [.int (aT 6 (kld c) (nI i5))]) ⟨hx, hb, hml, hown, hts⟩ (c_X4_at l G cI cQ (h 5) 6 (kld c) (emptyF c i5) (by decide)) ⟨va_cnB 2 hts gX0_emptiestServer_X4_at_n67 rfl rfl rfl (hK.2.m 6 rfl) (hts _ lk_X0_emptiestServer_5) cd_X4_at.2 ⟨Nat.le_of_ble_eq_true rfl, Nat.le_of_ble_eq_true rfl⟩, hts _ lk_X0_emptiestServer_4, trivial⟩ hK hP [5] rfl rfl hl.1 rfl (Nat.le_of_ble_eq_true rfl) dX0_emptiestServer_32 ⟨Nat.zero_le _, Nat.zero_le _⟩ ?_
          refine lv_icmp_ge (tgt := 42) hx hb dX0_emptiestServer_35 (by decide) (fun c_8 => ?_) (fun c_8 => ?_)
          · skip
            refine lv_iconst (v := 0) hx hb dX0_emptiestServer_42 (by decide) ?_
            refine lv_istore_n (lv' := [(3, .int 0), (2, .int (nI i5)), (1, .int (emptyF c i5)), (0, .ref (h 0))]) hx hb dX0_emptiestServer_43 rfl hl (by decide) rfl (fun ls hl => ?_)
            refine lv_aload_n hx hb dX0_emptiestServer_44 rfl (lv_at hl 3 rfl) ?_
            refine va_get (D := G) (ci := 0) (v := .ref (h 6)) (C := RX0) (T := TX0) (N := 13) hx hb hts in_X0_emptiestServer_X0 hown hK.1 hP 0 rfl rfl 5 (by decide) (hts _ lk_X0_emptiestServer_3) (fun _ h9 => h9) rfl dX0_emptiestServer_45 ?_
            refine lv_iload_n hx hb dX0_emptiestServer_48 rfl (lv_at hl 1 rfl) ?_
            refine pcSN (rest := []) ⟨hx, hb, hml, hown, hts⟩ (c_X4_at l G cI cQ (h 6) 6 (kop c) (nI i5) (by decide)) ⟨va_cnB 2 hts gX0_emptiestServer_X4_at_n67 rfl rfl rfl (hK.2.m 6 rfl) (hts _ lk_X0_emptiestServer_5) cd_X4_at.2 ⟨Nat.le_of_ble_eq_true rfl, Nat.le_of_ble_eq_true rfl⟩, hts _ lk_X0_emptiestServer_4, trivial⟩ hK hP [6] rfl rfl hl.1 rfl (Nat.le_of_ble_eq_true rfl) dX0_emptiestServer_49 ⟨Nat.zero_le _, Nat.zero_le _⟩ ?_
            refine lv_iconst (v := 1) hx hb dX0_emptiestServer_52 (by decide) ?_
            refine lv_icmp_ne (tgt := 62) hx hb dX0_emptiestServer_53 (by decide) (fun c_9 => ?_) (fun c_9 => ?_)
            · skip
              refine lv_iinc (v := (nI (i5 + 1))) (lv' := [(2, .int (nI (i5 + 1))), (3, .int 0), (1, .int (emptyF c i5)), (0, .ref (h 0))]) hx hb dX0_emptiestServer_62 hl (k := 1) rfl (nI_1 i5) (by decide) rfl (fun ls hl => ?_)
              refine lv_goto (tgt := 5) hx hb dX0_emptiestServer_65 (by decide) ?_
              have e_10 : (emptyF c (i5 + 1)) = (emptyF c i5) := by first | rfl | (simp only [emptyF, sEmpty, eq_false c_3, eq_false (Ne.symm c_3), eq_true c_8, eq_false (Int32.not_lt.mpr c_8), eq_false c_9, eq_false (Ne.symm c_9), if_true, if_false, and_true, true_and, and_false, false_and, or_true, true_or, or_false, false_or, not_true_eq_false, not_false_eq_true, ne_eq, ite_true, ite_false]) | (simp only [emptyF, sEmpty, eq_false c_3, eq_false (Ne.symm c_3), eq_true c_8, eq_false (Int32.not_lt.mpr c_8), eq_false c_9, eq_false (Ne.symm c_9), if_true, if_false, and_true, true_and, and_false, false_and, or_true, true_or, or_false, false_or, not_true_eq_false, not_false_eq_true, ne_eq, ite_true, ite_false]; rfl)
              exact ih5 (i5 + 1) (by omega) (by omega) (by omega) ls (by rw [e_10]; exact lv_sub hl [0, 2, 3] rfl)
            · skip
              refine lv_iload_n hx hb dX0_emptiestServer_56 rfl (lv_at hl 0 rfl) ?_
              refine lv_if_eq (tgt := 62) hx hb dX0_emptiestServer_57 (by decide) (fun c_11 => ?_) (fun c_11 => ?_)
              rotate_left
              · exact absurd c_11 (by decide)
              refine lv_iinc (v := (nI (i5 + 1))) (lv' := [(2, .int (nI (i5 + 1))), (3, .int 0), (1, .int (emptyF c i5)), (0, .ref (h 0))]) hx hb dX0_emptiestServer_62 hl (k := 1) rfl (nI_1 i5) (by decide) rfl (fun ls hl => ?_)
              refine lv_goto (tgt := 5) hx hb dX0_emptiestServer_65 (by decide) ?_
              have e_12 : (emptyF c (i5 + 1)) = (emptyF c i5) := by first | rfl | (simp only [emptyF, sEmpty, eq_false c_3, eq_false (Ne.symm c_3), eq_true c_8, eq_false (Int32.not_lt.mpr c_8), eq_true c_9, eq_true (Eq.symm c_9), if_true, if_false, and_true, true_and, and_false, false_and, or_true, true_or, or_false, false_or, not_true_eq_false, not_false_eq_true, ne_eq, ite_true, ite_false]) | (simp only [emptyF, sEmpty, eq_false c_3, eq_false (Ne.symm c_3), eq_true c_8, eq_false (Int32.not_lt.mpr c_8), eq_true c_9, eq_true (Eq.symm c_9), if_true, if_false, and_true, true_and, and_false, false_and, or_true, true_or, or_false, false_or, not_true_eq_false, not_false_eq_true, ne_eq, ite_true, ite_false]; rfl)
              exact ih5 (i5 + 1) (by omega) (by omega) (by omega) ls (by rw [e_12]; exact lv_sub hl [0, 2, 3] rfl)
          · skip
            refine lv_iconst (v := 1) hx hb dX0_emptiestServer_38 (by decide) ?_
            refine lv_goto (tgt := 43) hx hb dX0_emptiestServer_39 (by decide) ?_
            refine lv_istore_n (lv' := [(3, .int 1), (2, .int (nI i5)), (1, .int (emptyF c i5)), (0, .ref (h 0))]) hx hb dX0_emptiestServer_43 rfl hl (by decide) rfl (fun ls hl => ?_)
            refine lv_aload_n hx hb dX0_emptiestServer_44 rfl (lv_at hl 3 rfl) ?_
            refine va_get (D := G) (ci := 0) (v := .ref (h 6)) (C := RX0) (T := TX0) (N := 13) hx hb hts in_X0_emptiestServer_X0 hown hK.1 hP 0 rfl rfl 5 (by decide) (hts _ lk_X0_emptiestServer_3) (fun _ h9 => h9) rfl dX0_emptiestServer_45 ?_
            refine lv_iload_n hx hb dX0_emptiestServer_48 rfl (lv_at hl 1 rfl) ?_
            refine pcSN (rest := []) ⟨hx, hb, hml, hown, hts⟩ (c_X4_at l G cI cQ (h 6) 6 (kop c) (nI i5) (by decide)) ⟨va_cnB 2 hts gX0_emptiestServer_X4_at_n67 rfl rfl rfl (hK.2.m 6 rfl) (hts _ lk_X0_emptiestServer_5) cd_X4_at.2 ⟨Nat.le_of_ble_eq_true rfl, Nat.le_of_ble_eq_true rfl⟩, hts _ lk_X0_emptiestServer_4, trivial⟩ hK hP [6] rfl rfl hl.1 rfl (Nat.le_of_ble_eq_true rfl) dX0_emptiestServer_49 ⟨Nat.zero_le _, Nat.zero_le _⟩ ?_
            refine lv_iconst (v := 1) hx hb dX0_emptiestServer_52 (by decide) ?_
            refine lv_icmp_ne (tgt := 62) hx hb dX0_emptiestServer_53 (by decide) (fun c_13 => ?_) (fun c_13 => ?_)
            · skip
              refine lv_iinc (v := (nI (i5 + 1))) (lv' := [(2, .int (nI (i5 + 1))), (3, .int 1), (1, .int (emptyF c i5)), (0, .ref (h 0))]) hx hb dX0_emptiestServer_62 hl (k := 1) rfl (nI_1 i5) (by decide) rfl (fun ls hl => ?_)
              refine lv_goto (tgt := 5) hx hb dX0_emptiestServer_65 (by decide) ?_
              have e_14 : (emptyF c (i5 + 1)) = (emptyF c i5) := by first | rfl | (simp only [emptyF, sEmpty, eq_false c_3, eq_false (Ne.symm c_3), eq_false c_8, eq_true (Int32.not_le.mp c_8), eq_false c_13, eq_false (Ne.symm c_13), if_true, if_false, and_true, true_and, and_false, false_and, or_true, true_or, or_false, false_or, not_true_eq_false, not_false_eq_true, ne_eq, ite_true, ite_false]) | (simp only [emptyF, sEmpty, eq_false c_3, eq_false (Ne.symm c_3), eq_false c_8, eq_true (Int32.not_le.mp c_8), eq_false c_13, eq_false (Ne.symm c_13), if_true, if_false, and_true, true_and, and_false, false_and, or_true, true_or, or_false, false_or, not_true_eq_false, not_false_eq_true, ne_eq, ite_true, ite_false]; rfl)
              exact ih5 (i5 + 1) (by omega) (by omega) (by omega) ls (by rw [e_14]; exact lv_sub hl [0, 2, 3] rfl)
            · skip
              refine lv_iload_n hx hb dX0_emptiestServer_56 rfl (lv_at hl 0 rfl) ?_
              refine lv_if_eq (tgt := 62) hx hb dX0_emptiestServer_57 (by decide) (fun c_15 => ?_) (fun c_15 => ?_)
              · exact absurd c_15 (by decide)
              refine lv_iload_n hx hb dX0_emptiestServer_60 rfl (lv_at hl 1 rfl) ?_
              refine lv_istore_n (lv' := [(1, .int (nI i5)), (3, .int 1), (2, .int (nI i5)), (0, .ref (h 0))]) hx hb dX0_emptiestServer_61 rfl hl (by decide) rfl (fun ls hl => ?_)
              refine lv_iinc (v := (nI (i5 + 1))) (lv' := [(2, .int (nI (i5 + 1))), (1, .int (nI i5)), (3, .int 1), (0, .ref (h 0))]) hx hb dX0_emptiestServer_62 hl (k := 2) rfl (nI_1 i5) (by decide) rfl (fun ls hl => ?_)
              refine lv_goto (tgt := 5) hx hb dX0_emptiestServer_65 (by decide) ?_
              have e_16 : (emptyF c (i5 + 1)) = (nI i5) := by first | rfl | (simp only [emptyF, sEmpty, eq_false c_3, eq_false (Ne.symm c_3), eq_false c_8, eq_true (Int32.not_le.mp c_8), eq_true c_13, eq_true (Eq.symm c_13), if_true, if_false, and_true, true_and, and_false, false_and, or_true, true_or, or_false, false_or, not_true_eq_false, not_false_eq_true, ne_eq, ite_true, ite_false]) | (simp only [emptyF, sEmpty, eq_false c_3, eq_false (Ne.symm c_3), eq_false c_8, eq_true (Int32.not_le.mp c_8), eq_true c_13, eq_true (Eq.symm c_13), if_true, if_false, and_true, true_and, and_false, false_and, or_true, true_or, or_false, false_or, not_true_eq_false, not_false_eq_true, ne_eq, ite_true, ite_false]; rfl)
              exact ih5 (i5 + 1) (by omega) (by omega) (by omega) ls (by rw [e_16]; exact lv_sub hl [0, 1, 3] rfl)
  have e_17 : (nI 0) = 0 := by first | rfl | decide
  have e_18 : (emptyF c 0) = (-9) := by first | rfl | (simp only [emptyF, sEmpty, if_true, if_false, and_true, true_and, and_false, false_and, or_true, true_or, or_false, false_or, not_true_eq_false, not_false_eq_true, ne_eq, ite_true, ite_false]) | (simp only [emptyF, sEmpty, if_true, if_false, and_true, true_and, and_false, false_and, or_true, true_or, or_false, false_or, not_true_eq_false, not_false_eq_true, ne_eq, ite_true, ite_false]; rfl)
  exact L5 (knv c + 1) 0 (by omega) (by omega) (by omega) ls (by rw [e_17]; rw [e_18]; exact lv_sub hl [0, 1, 2] rfl)
theorem cd_X0_emptiestServer : yX0_emptiestServer.cls = RX0 ∧ yX0_emptiestServer.cls ≠ "java/lang/invoke/MethodHandle" ∧ yX0_emptiestServer.cls ≠ "java/lang/invoke/VarHandle" ∧ (parseMethodDescriptor yX0_emptiestServer.desc).map (fun d => d.parameters.length) = some 0 := by decide +kernel
-- X0_greatestLoad
theorem lk_X0_greatestLoad_1 : Cond.fieldLink RX0 24 "EvenLoads$Cluster" "loads" "[I" ∈ wsX0_greatestLoad := List.mem_of_getElem? (i := 1) (by decide +kernel)
theorem lk_X0_greatestLoad_9 : Cond.static yX4_at ∈ wsX0_greatestLoad := List.mem_of_getElem? (i := 9) (by decide +kernel)
theorem lk_X0_greatestLoad_10 : Cond.initialized RX4 ∈ wsX0_greatestLoad := List.mem_of_getElem? (i := 10) (by decide +kernel)
theorem in_X0_greatestLoad_X0 : ∀ w ∈ wsX00, w ∈ wsX0_greatestLoad := by decide +kernel
set_option maxHeartbeats 4000000 in
set_option maxRecDepth 100000 in
theorem c_X0_greatestLoad (l : Launch) (G : va_G) (cI cQ : ClassId) (h : Nat → Nat) (c : CS) (hv : knv c ≤ 6) (hj : knj c ≤ 24) : Met l yX0_greatestLoad wsX0_greatestLoad ({ frames := 2, cells := 0, slots := 0, locals := 44 } : Room) (pPc G cI cQ [.ref (h 0)] ((clT cI h c))) (vp_Si (fun r => r = sGreatest c)) 0 0 (fun _ => False) := by
  refine pm_of (cc := cX0_greatestLoad) (maxL := 1) (ret := (some .int)) (own := RX0) (by decide) rfl rfl (Nat.le_of_ble_eq_true rfl) rfl ?_
  intro p e s m below meth cd ls hx hb hr hts hown hlocks hml hK hP hl
  refine lv_aload_n hx hb dX0_greatestLoad_0 rfl (lv_at hl 0 rfl) ?_
  refine va_get (D := G) (ci := 0) (v := .ref (h 5)) (C := RX0) (T := TX0) (N := 13) hx hb hts in_X0_greatestLoad_X0 hown hK.1 hP 0 rfl rfl 4 (by decide) (hts _ lk_X0_greatestLoad_1) (fun _ h9 => h9) rfl dX0_greatestLoad_1 ?_
  refine lv_aload_n hx hb dX0_greatestLoad_4 rfl (lv_at hl 0 rfl) ?_
  refine pcV (rest := [.ref (h 5)]) ⟨hx, hb, hml, hown, hts⟩ (c_X0_fullestServer l G cI cQ h c hv hj) (cwV 0 hts gX0_greatestLoad_X0_fullestServer rfl rfl rfl cd_X0_fullestServer ⟨Nat.le_of_ble_eq_true rfl, Nat.le_of_ble_eq_true rfl⟩) hK hP [0, 1, 2, 3, 4, 5, 6] rfl 0 rfl rfl rfl rfl hl.1 rfl (Nat.le_of_ble_eq_true rfl) dX0_greatestLoad_5 ⟨Nat.zero_le _, Nat.zero_le _⟩ ?_
  refine pcSN (rest := []) ⟨hx, hb, hml, hown, hts⟩ (c_X4_at l G cI cQ (h 5) 6 (kld c) (sFull c) (by decide)) ⟨va_cnB 2 hts gX0_greatestLoad_X4_at_n67 rfl rfl rfl (hK.2.m 6 rfl) (hts _ lk_X0_greatestLoad_10) cd_X4_at.2 ⟨Nat.le_of_ble_eq_true rfl, Nat.le_of_ble_eq_true rfl⟩, hts _ lk_X0_greatestLoad_9, trivial⟩ hK hP [5] rfl rfl hl.1 rfl (Nat.le_of_ble_eq_true rfl) dX0_greatestLoad_8 ⟨Nat.zero_le _, Nat.zero_le _⟩ ?_
  exact p_ret hx hb hr hlocks rfl (by first | rfl | (simp only [sGreatest, if_true, if_false, and_true, true_and, and_false, false_and, or_true, true_or, or_false, false_or, not_true_eq_false, not_false_eq_true, ne_eq, ite_true, ite_false]) | (simp only [sGreatest, if_true, if_false, and_true, true_and, and_false, false_and, or_true, true_or, or_false, false_or, not_true_eq_false, not_false_eq_true, ne_eq, ite_true, ite_false]; rfl)) dX0_greatestLoad_11
theorem cd_X0_greatestLoad : yX0_greatestLoad.cls = RX0 ∧ yX0_greatestLoad.cls ≠ "java/lang/invoke/MethodHandle" ∧ yX0_greatestLoad.cls ≠ "java/lang/invoke/VarHandle" ∧ (parseMethodDescriptor yX0_greatestLoad.desc).map (fun d => d.parameters.length) = some 0 := by decide +kernel
-- X0_bound
theorem lk_X0_bound_1 : Cond.fieldLink RX0 37 "EvenLoads$Cluster" "jobs" "I" ∈ wsX0_bound := List.mem_of_getElem? (i := 1) (by decide +kernel)
theorem lk_X0_bound_2 : Cond.fieldLink RX0 18 "EvenLoads$Cluster" "places" "[I" ∈ wsX0_bound := List.mem_of_getElem? (i := 2) (by decide +kernel)
theorem lk_X0_bound_3 : Cond.fieldLink RX0 9 "EvenLoads$Cluster" "sizes" "[I" ∈ wsX0_bound := List.mem_of_getElem? (i := 3) (by decide +kernel)
theorem lk_X0_bound_4 : Cond.methodLink RX0 127 Lib.Math.max.name ∈ wsX0_bound := List.mem_of_getElem? (i := 4) (by decide +kernel)
theorem lk_X0_bound_5 : Cond.static Lib.Math.max.name ∈ wsX0_bound := List.mem_of_getElem? (i := 5) (by decide +kernel)
theorem lk_X0_bound_6 : Cond.initialized "java/lang/Math" ∈ wsX0_bound := List.mem_of_getElem? (i := 6) (by decide +kernel)
theorem lk_X0_bound_7 : Cond.code Lib.Math.max.name Lib.Math.max.code 2 (some .int) ∈ wsX0_bound := List.mem_of_getElem? (i := 7) (by decide +kernel)
theorem lk_X0_bound_8 : Cond.fieldLink RX0 34 "EvenLoads$Cluster" "openServers" "I" ∈ wsX0_bound := List.mem_of_getElem? (i := 8) (by decide +kernel)
theorem lk_X0_bound_9 : Cond.fieldLink RX0 40 "EvenLoads$Cluster" "sum" "I" ∈ wsX0_bound := List.mem_of_getElem? (i := 9) (by decide +kernel)
theorem lk_X0_bound_10 : Cond.static yX4_at ∈ wsX0_bound := List.mem_of_getElem? (i := 10) (by decide +kernel)
theorem lk_X0_bound_11 : Cond.initialized RX4 ∈ wsX0_bound := List.mem_of_getElem? (i := 11) (by decide +kernel)
theorem in_X0_bound_X0 : ∀ w ∈ wsX00, w ∈ wsX0_bound := by decide +kernel
set_option maxHeartbeats 4000000 in
set_option maxRecDepth 100000 in
theorem c_X0_bound (l : Launch) (G : va_G) (cI cQ : ClassId) (h : Nat → Nat) (c : CS) (hv : knv c ≤ 6) (hj : knj c ≤ 24) : Met l yX0_bound wsX0_bound ({ frames := 1, cells := 0, slots := 0, locals := 60 } : Room) (pPc G cI cQ [.ref (h 0)] ((clT cI h c))) (vp_Si (fun r => r = sBound c)) 0 0 (fun _ => False) := by
  refine pm_of (cc := cX0_bound) (maxL := 3) (ret := (some .int)) (own := RX0) (by decide) rfl rfl (Nat.le_of_ble_eq_true rfl) rfl ?_
  intro p e s m below meth cd ls hx hb hr hts hown hlocks hml hK hP hl
  refine lv_iconst (v := 0) hx hb dX0_bound_0 (by decide) ?_
  refine lv_istore_n (lv' := [(1, .int 0), (0, .ref (h 0))]) hx hb dX0_bound_1 rfl hl (by decide) rfl (fun ls hl => ?_)
  refine lv_iconst (v := 0) hx hb dX0_bound_2 (by decide) ?_
  refine lv_istore_n (lv' := [(2, .int 0), (1, .int 0), (0, .ref (h 0))]) hx hb dX0_bound_3 rfl hl (by decide) rfl (fun ls hl => ?_)
  have L4 : ∀ (n4 i4 : Nat), 0 ≤ i4 → i4 ≤ knj c → knj c + 1 ≤ i4 + n4 → ∀ (ls : Array Slot), lv_has ls 3 [(2, .int (nI i4)), (1, .int (bndF c i4)), (0, .ref (h 0))] → W p l e ({ frames := 1, cells := 0, slots := 0, locals := 60 } : Room) s m ([.ref (h 0)] : List Value).toArray below meth cd s.heap [] 0 0 (MQ below (vp_Si (fun r => r = sBound c)) ([.ref (h 0)] : List Value).toArray s 0 0 (fun _ => False)) (F0 m 4 ls []) := by
    intro n4
    induction n4 with
    | zero => intro i4 h0 h1 h2; exact absurd h2 (by omega)
    | succ n4 ih4 =>
      intro i4 hlo4 hle4 hin4 ls hl
      refine lv_iload_n hx hb dX0_bound_4 rfl (lv_at hl 0 rfl) ?_
      refine lv_aload_n hx hb dX0_bound_5 rfl (lv_at hl 2 rfl) ?_
      refine va_get (D := G) (ci := 0) (v := .int (nI (knj c))) (C := RX0) (T := TX0) (N := 13) hx hb hts in_X0_bound_X0 hown hK.1 hP 0 rfl rfl 8 (by decide) (hts _ lk_X0_bound_1) (fun _ h9 => h9) rfl dX0_bound_6 ?_
      refine lv_icmp_ge (tgt := 44) hx hb dX0_bound_9 (by decide) (fun c_1 => ?_) (fun c_1 => ?_)
      · skip
        have q_2 : i4 = knj c := by have h9 := (nI_leI (by omega) (by omega)).mp c_1; omega
        subst q_2
        refine lv_aload_n hx hb dX0_bound_44 rfl (lv_at hl 2 rfl) ?_
        refine va_get (D := G) (ci := 0) (v := .int (knO c)) (C := RX0) (T := TX0) (N := 13) hx hb hts in_X0_bound_X0 hown hK.1 hP 0 rfl rfl 7 (by decide) (hts _ lk_X0_bound_8) (fun _ h9 => h9) rfl dX0_bound_45 ?_
        refine lv_if_le (tgt := 70) hx hb dX0_bound_48 (by decide) (fun c_3 => ?_) (fun c_3 => ?_)
        · skip
          refine lv_iconst (v := 0) hx hb dX0_bound_70 (by decide) ?_
          refine lv_istore_n (lv' := [(2, .int 0), (1, .int (bndF c (knj c))), (0, .ref (h 0))]) hx hb dX0_bound_71 rfl hl (by decide) rfl (fun ls hl => ?_)
          refine lv_iload_n hx hb dX0_bound_72 rfl (lv_at hl 0 rfl) ?_
          refine lv_iload_n hx hb dX0_bound_73 rfl (lv_at hl 1 rfl) ?_
          refine va_mmax hx hb (hml.trans hl.1.symm) hown (hts _ lk_X0_bound_4) (hts _ lk_X0_bound_5) (hts _ lk_X0_bound_6) (hts _ lk_X0_bound_7) (Nat.le_of_ble_eq_true rfl) (Nat.le_of_ble_eq_true rfl) (Nat.le_of_ble_eq_true rfl) (Nat.le_of_ble_eq_true rfl) dX0_bound_74 ?_
          exact p_ret hx hb hr hlocks rfl (by first | rfl | (simp only [bndF, sBound, sAvg, eq_true c_3, eq_false (Int32.not_lt.mpr c_3), if_true, if_false, and_true, true_and, and_false, false_and, or_true, true_or, or_false, false_or, not_true_eq_false, not_false_eq_true, ne_eq, ite_true, ite_false]) | (simp only [bndF, sBound, sAvg, eq_true c_3, eq_false (Int32.not_lt.mpr c_3), if_true, if_false, and_true, true_and, and_false, false_and, or_true, true_or, or_false, false_or, not_true_eq_false, not_false_eq_true, ne_eq, ite_true, ite_false]; rfl)) dX0_bound_77
        · skip
          refine lv_aload_n hx hb dX0_bound_51 rfl (lv_at hl 2 rfl) ?_
          refine va_get (D := G) (ci := 0) (v := .int (ksm c)) (C := RX0) (T := TX0) (N := 13) hx hb hts in_X0_bound_X0 hown hK.1 hP 0 rfl rfl 9 (by decide) (hts _ lk_X0_bound_9) (fun _ h9 => h9) rfl dX0_bound_52 ?_
          refine lv_aload_n hx hb dX0_bound_55 rfl (lv_at hl 2 rfl) ?_
          refine va_get (D := G) (ci := 0) (v := .int (knO c)) (C := RX0) (T := TX0) (N := 13) hx hb hts in_X0_bound_X0 hown hK.1 hP 0 rfl rfl 7 (by decide) (hts _ lk_X0_bound_8) (fun _ h9 => h9) rfl dX0_bound_56 ?_
          refine lv_iadd hx hb dX0_bound_59 ?_
          refine lv_iconst (v := 1) hx hb dX0_bound_60 (by decide) ?_
          refine lv_isub hx hb dX0_bound_61 ?_
          refine lv_aload_n hx hb dX0_bound_62 rfl (lv_at hl 2 rfl) ?_
          refine va_get (D := G) (ci := 0) (v := .int (knO c)) (C := RX0) (T := TX0) (N := 13) hx hb hts in_X0_bound_X0 hown hK.1 hP 0 rfl rfl 7 (by decide) (hts _ lk_X0_bound_8) (fun _ h9 => h9) rfl dX0_bound_63 ?_
          refine lv_idiv hx hb dX0_bound_66 (fun h => c_3 (by rw [h]; decide)) ?_
          refine lv_goto (tgt := 71) hx hb dX0_bound_67 (by decide) ?_
          refine lv_istore_n (lv' := [(2, .int ((((ksm c) + (knO c)) - 1) / (knO c))), (1, .int (bndF c (knj c))), (0, .ref (h 0))]) hx hb dX0_bound_71 rfl hl (by decide) rfl (fun ls hl => ?_)
          refine lv_iload_n hx hb dX0_bound_72 rfl (lv_at hl 0 rfl) ?_
          refine lv_iload_n hx hb dX0_bound_73 rfl (lv_at hl 1 rfl) ?_
          refine va_mmax hx hb (hml.trans hl.1.symm) hown (hts _ lk_X0_bound_4) (hts _ lk_X0_bound_5) (hts _ lk_X0_bound_6) (hts _ lk_X0_bound_7) (Nat.le_of_ble_eq_true rfl) (Nat.le_of_ble_eq_true rfl) (Nat.le_of_ble_eq_true rfl) (Nat.le_of_ble_eq_true rfl) dX0_bound_74 ?_
          exact p_ret hx hb hr hlocks rfl (by first | rfl | (simp only [bndF, sBound, sAvg, eq_false c_3, eq_true (Int32.not_le.mp c_3), if_true, if_false, and_true, true_and, and_false, false_and, or_true, true_or, or_false, false_or, not_true_eq_false, not_false_eq_true, ne_eq, ite_true, ite_false]) | (simp only [bndF, sBound, sAvg, eq_false c_3, eq_true (Int32.not_le.mp c_3), if_true, if_false, and_true, true_and, and_false, false_and, or_true, true_or, or_false, false_or, not_true_eq_false, not_false_eq_true, ne_eq, ite_true, ite_false]; rfl)) dX0_bound_77
      · skip
        have hlt4 : i4 < knj c := Nat.lt_of_not_le (fun q => c_1 ((nI_leI (by omega) (by omega)).mpr q))
        refine lv_aload_n hx hb dX0_bound_12 rfl (lv_at hl 2 rfl) ?_
        refine va_get (D := G) (ci := 0) (v := .ref (h 3)) (C := RX0) (T := TX0) (N := 13) hx hb hts in_X0_bound_X0 hown hK.1 hP 0 rfl rfl 2 (by decide) (hts _ lk_X0_bound_2) (fun _ h9 => h9) rfl dX0_bound_13 ?_
        refine lv_iload_n hx hb dX0_bound_16 rfl (lv_at hl 0 rfl) ?_
        refine pcSN (rest := []) ⟨hx, hb, hml, hown, hts⟩ (c_X4_at l G cI cQ (h 3) 24 (kpl c) (nI i4) (by decide)) ⟨va_cnB 2 hts gX0_bound_X4_at_n67 rfl rfl rfl (hK.2.m 6 rfl) (hts _ lk_X0_bound_11) cd_X4_at.2 ⟨Nat.le_of_ble_eq_true rfl, Nat.le_of_ble_eq_true rfl⟩, hts _ lk_X0_bound_10, trivial⟩ hK hP [3] rfl rfl hl.1 rfl (Nat.le_of_ble_eq_true rfl) dX0_bound_17 ⟨Nat.zero_le _, Nat.zero_le _⟩ ?_
        refine lv_bipush (v := (-9)) hx hb dX0_bound_20 (by decide) ?_
        refine lv_icmp_eq (tgt := 38) hx hb dX0_bound_22 (by decide) (fun c_4 => ?_) (fun c_4 => ?_)
        · skip
          refine lv_iinc (v := (nI (i4 + 1))) (lv' := [(2, .int (nI (i4 + 1))), (1, .int (bndF c i4)), (0, .ref (h 0))]) hx hb dX0_bound_38 hl (k := 0) rfl (nI_1 i4) (by decide) rfl (fun ls hl => ?_)
          refine lv_goto (tgt := 4) hx hb dX0_bound_41 (by decide) ?_
          have e_5 : (bndF c (i4 + 1)) = (bndF c i4) := by first | rfl | (simp only [bndF, sBound, sAvg, eq_true c_4, eq_true (Eq.symm c_4), if_true, if_false, and_true, true_and, and_false, false_and, or_true, true_or, or_false, false_or, not_true_eq_false, not_false_eq_true, ne_eq, ite_true, ite_false]) | (simp only [bndF, sBound, sAvg, eq_true c_4, eq_true (Eq.symm c_4), if_true, if_false, and_true, true_and, and_false, false_and, or_true, true_or, or_false, false_or, not_true_eq_false, not_false_eq_true, ne_eq, ite_true, ite_false]; rfl)
          exact ih4 (i4 + 1) (by omega) (by omega) (by omega) ls (by rw [e_5]; exact lv_sub hl [0, 1, 2] rfl)
        · skip
          refine lv_iload_n hx hb dX0_bound_25 rfl (lv_at hl 1 rfl) ?_
          refine lv_aload_n hx hb dX0_bound_26 rfl (lv_at hl 2 rfl) ?_
          refine va_get (D := G) (ci := 0) (v := .ref (h 1)) (C := RX0) (T := TX0) (N := 13) hx hb hts in_X0_bound_X0 hown hK.1 hP 0 rfl rfl 0 (by decide) (hts _ lk_X0_bound_3) (fun _ h9 => h9) rfl dX0_bound_27 ?_
          refine lv_iload_n hx hb dX0_bound_30 rfl (lv_at hl 0 rfl) ?_
          refine pcSN (rest := [.int (bndF c i4)]) ⟨hx, hb, hml, hown, hts⟩ (c_X4_at l G cI cQ (h 1) 24 (ksz c) (nI i4) (by decide)) ⟨va_cnB 2 hts gX0_bound_X4_at_n67 rfl rfl rfl (hK.2.m 6 rfl) (hts _ lk_X0_bound_11) cd_X4_at.2 ⟨Nat.le_of_ble_eq_true rfl, Nat.le_of_ble_eq_true rfl⟩, hts _ lk_X0_bound_10, trivial⟩ hK hP [1] rfl rfl hl.1 rfl (Nat.le_of_ble_eq_true rfl) dX0_bound_31 ⟨Nat.zero_le _, Nat.zero_le _⟩ ?_
          refine va_mmax hx hb (hml.trans hl.1.symm) hown (hts _ lk_X0_bound_4) (hts _ lk_X0_bound_5) (hts _ lk_X0_bound_6) (hts _ lk_X0_bound_7) (Nat.le_of_ble_eq_true rfl) (Nat.le_of_ble_eq_true rfl) (Nat.le_of_ble_eq_true rfl) (Nat.le_of_ble_eq_true rfl) dX0_bound_34 ?_
          refine lv_istore_n (lv' := [(1, .int (if (bndF c i4) < (aT 24 (ksz c) (nI i4)) then (aT 24 (ksz c) (nI i4)) else (bndF c i4))), (2, .int (nI i4)), (0, .ref (h 0))]) hx hb dX0_bound_37 rfl hl (by decide) rfl (fun ls hl => ?_)
          refine lv_iinc (v := (nI (i4 + 1))) (lv' := [(2, .int (nI (i4 + 1))), (1, .int (if (bndF c i4) < (aT 24 (ksz c) (nI i4)) then (aT 24 (ksz c) (nI i4)) else (bndF c i4))), (0, .ref (h 0))]) hx hb dX0_bound_38 hl (k := 1) rfl (nI_1 i4) (by decide) rfl (fun ls hl => ?_)
          refine lv_goto (tgt := 4) hx hb dX0_bound_41 (by decide) ?_
          have e_6 : (bndF c (i4 + 1)) = (if (bndF c i4) < (aT 24 (ksz c) (nI i4)) then (aT 24 (ksz c) (nI i4)) else (bndF c i4)) := by first | rfl | (simp only [bndF, sBound, sAvg, eq_false c_4, eq_false (Ne.symm c_4), if_true, if_false, and_true, true_and, and_false, false_and, or_true, true_or, or_false, false_or, not_true_eq_false, not_false_eq_true, ne_eq, ite_true, ite_false]) | (simp only [bndF, sBound, sAvg, eq_false c_4, eq_false (Ne.symm c_4), if_true, if_false, and_true, true_and, and_false, false_and, or_true, true_or, or_false, false_or, not_true_eq_false, not_false_eq_true, ne_eq, ite_true, ite_false]; rfl)
          exact ih4 (i4 + 1) (by omega) (by omega) (by omega) ls (by rw [e_6]; exact lv_sub hl [0, 1, 2] rfl)
  have e_7 : (nI 0) = 0 := by first | rfl | decide
  have e_8 : (bndF c 0) = 0 := by first | rfl | (simp only [bndF, sBound, sAvg, if_true, if_false, and_true, true_and, and_false, false_and, or_true, true_or, or_false, false_or, not_true_eq_false, not_false_eq_true, ne_eq, ite_true, ite_false]) | (simp only [bndF, sBound, sAvg, if_true, if_false, and_true, true_and, and_false, false_and, or_true, true_or, or_false, false_or, not_true_eq_false, not_false_eq_true, ne_eq, ite_true, ite_false]; rfl)
  exact L4 (knj c + 1) 0 (by omega) (by omega) (by omega) ls (by rw [e_7]; rw [e_8]; exact lv_sub hl [0, 1, 2] rfl)
theorem cd_X0_bound : yX0_bound.cls = RX0 ∧ yX0_bound.cls ≠ "java/lang/invoke/MethodHandle" ∧ yX0_bound.cls ≠ "java/lang/invoke/VarHandle" ∧ (parseMethodDescriptor yX0_bound.desc).map (fun d => d.parameters.length) = some 0 := by decide +kernel
-- X0_target
theorem lk_X0_target_1 : Cond.fieldLink RX0 46 "EvenLoads$Cluster" "factor" "I" ∈ wsX0_target := List.mem_of_getElem? (i := 1) (by decide +kernel)
theorem in_X0_target_X0 : ∀ w ∈ wsX00, w ∈ wsX0_target := by decide +kernel
set_option maxHeartbeats 4000000 in
set_option maxRecDepth 100000 in
theorem c_X0_target (l : Launch) (G : va_G) (cI cQ : ClassId) (h : Nat → Nat) (c : CS) (hv : knv c ≤ 6) (hj : knj c ≤ 24) : Met l yX0_target wsX0_target ({ frames := 2, cells := 0, slots := 0, locals := 82 } : Room) (pPc G cI cQ [.ref (h 0)] ((clT cI h c))) (vp_Si (fun r => r = sTarget c)) 0 0 (fun _ => False) := by
  refine pm_of (cc := cX0_target) (maxL := 1) (ret := (some .int)) (own := RX0) (by decide) rfl rfl (Nat.le_of_ble_eq_true rfl) rfl ?_
  intro p e s m below meth cd ls hx hb hr hts hown hlocks hml hK hP hl
  refine lv_aload_n hx hb dX0_target_0 rfl (lv_at hl 0 rfl) ?_
  refine pcV (rest := []) ⟨hx, hb, hml, hown, hts⟩ (c_X0_bound l G cI cQ h c hv hj) (cwV 0 hts gX0_target_X0_bound rfl rfl rfl cd_X0_bound ⟨Nat.le_of_ble_eq_true rfl, Nat.le_of_ble_eq_true rfl⟩) hK hP [0, 1, 2, 3, 4, 5, 6] rfl 0 rfl rfl rfl rfl hl.1 rfl (Nat.le_of_ble_eq_true rfl) dX0_target_1 ⟨Nat.zero_le _, Nat.zero_le _⟩ ?_
  refine lv_aload_n hx hb dX0_target_4 rfl (lv_at hl 0 rfl) ?_
  refine va_get (D := G) (ci := 0) (v := .int (kfa c)) (C := RX0) (T := TX0) (N := 13) hx hb hts in_X0_target_X0 hown hK.1 hP 0 rfl rfl 11 (by decide) (hts _ lk_X0_target_1) (fun _ h9 => h9) rfl dX0_target_5 ?_
  refine lv_imul hx hb dX0_target_8 ?_
  refine lv_bipush (v := 100) hx hb dX0_target_9 (by decide) ?_
  refine lv_idiv hx hb dX0_target_11 (by decide) ?_
  exact p_ret hx hb hr hlocks rfl (by first | rfl | (simp only [sTarget, if_true, if_false, and_true, true_and, and_false, false_and, or_true, true_or, or_false, false_or, not_true_eq_false, not_false_eq_true, ne_eq, ite_true, ite_false]) | (simp only [sTarget, if_true, if_false, and_true, true_and, and_false, false_and, or_true, true_or, or_false, false_or, not_true_eq_false, not_false_eq_true, ne_eq, ite_true, ite_false]; rfl)) dX0_target_12
theorem cd_X0_target : yX0_target.cls = RX0 ∧ yX0_target.cls ≠ "java/lang/invoke/MethodHandle" ∧ yX0_target.cls ≠ "java/lang/invoke/VarHandle" ∧ (parseMethodDescriptor yX0_target.desc).map (fun d => d.parameters.length) = some 0 := by decide +kernel
-- X0_isEven
set_option maxHeartbeats 4000000 in
set_option maxRecDepth 100000 in
theorem c_X0_isEven (l : Launch) (G : va_G) (cI cQ : ClassId) (h : Nat → Nat) (c : CS) (hv : knv c ≤ 6) (hj : knj c ≤ 24) : Met l yX0_isEven wsX0_isEven ({ frames := 3, cells := 0, slots := 0, locals := 102 } : Room) (pPc G cI cQ [.ref (h 0)] ((clT cI h c))) (vp_Si (fun r => r = bI (pEven c))) 0 0 (fun _ => False) := by
  refine pm_of (cc := cX0_isEven) (maxL := 1) (ret := (some .boolean)) (own := RX0) (by decide) rfl rfl (Nat.le_of_ble_eq_true rfl) rfl ?_
  intro p e s m below meth cd ls hx hb hr hts hown hlocks hml hK hP hl
  refine lv_aload_n hx hb dX0_isEven_0 rfl (lv_at hl 0 rfl) ?_
  refine pcV (rest := []) ⟨hx, hb, hml, hown, hts⟩ (c_X0_greatestLoad l G cI cQ h c hv hj) (cwV 0 hts gX0_isEven_X0_greatestLoad rfl rfl rfl cd_X0_greatestLoad ⟨Nat.le_of_ble_eq_true rfl, Nat.le_of_ble_eq_true rfl⟩) hK hP [0, 1, 2, 3, 4, 5, 6] rfl 0 rfl rfl rfl rfl hl.1 rfl (Nat.le_of_ble_eq_true rfl) dX0_isEven_1 ⟨Nat.zero_le _, Nat.zero_le _⟩ ?_
  refine lv_aload_n hx hb dX0_isEven_4 rfl (lv_at hl 0 rfl) ?_
  refine pcV (rest := [.int (sGreatest c)]) ⟨hx, hb, hml, hown, hts⟩ (c_X0_target l G cI cQ h c hv hj) (cwV 0 hts gX0_isEven_X0_target rfl rfl rfl cd_X0_target ⟨Nat.le_of_ble_eq_true rfl, Nat.le_of_ble_eq_true rfl⟩) hK hP [0, 1, 2, 3, 4, 5, 6] rfl 0 rfl rfl rfl rfl hl.1 rfl (Nat.le_of_ble_eq_true rfl) dX0_isEven_5 ⟨Nat.zero_le _, Nat.zero_le _⟩ ?_
  refine lv_icmp_gt (tgt := 15) hx hb dX0_isEven_8 (by decide) (fun c_1 => ?_) (fun c_1 => ?_)
  · skip
    refine lv_iconst (v := 0) hx hb dX0_isEven_15 (by decide) ?_
    exact p_ret hx hb hr hlocks rfl (by first | rfl | (simp only [bI, pEven, eq_true c_1, eq_false (Int32.not_le.mpr c_1), if_true, if_false, and_true, true_and, and_false, false_and, or_true, true_or, or_false, false_or, not_true_eq_false, not_false_eq_true, ne_eq, ite_true, ite_false]) | (simp only [bI, pEven, eq_true c_1, eq_false (Int32.not_le.mpr c_1), if_true, if_false, and_true, true_and, and_false, false_and, or_true, true_or, or_false, false_or, not_true_eq_false, not_false_eq_true, ne_eq, ite_true, ite_false]; rfl)) dX0_isEven_16
  · skip
    refine lv_iconst (v := 1) hx hb dX0_isEven_11 (by decide) ?_
    refine lv_goto (tgt := 16) hx hb dX0_isEven_12 (by decide) ?_
    exact p_ret hx hb hr hlocks rfl (by first | rfl | (simp only [bI, pEven, eq_false c_1, eq_true (Int32.not_lt.mp c_1), if_true, if_false, and_true, true_and, and_false, false_and, or_true, true_or, or_false, false_or, not_true_eq_false, not_false_eq_true, ne_eq, ite_true, ite_false]) | (simp only [bI, pEven, eq_false c_1, eq_true (Int32.not_lt.mp c_1), if_true, if_false, and_true, true_and, and_false, false_and, or_true, true_or, or_false, false_or, not_true_eq_false, not_false_eq_true, ne_eq, ite_true, ite_false]; rfl)) dX0_isEven_16
theorem cd_X0_isEven : yX0_isEven.cls = RX0 ∧ yX0_isEven.cls ≠ "java/lang/invoke/MethodHandle" ∧ yX0_isEven.cls ≠ "java/lang/invoke/VarHandle" ∧ (parseMethodDescriptor yX0_isEven.desc).map (fun d => d.parameters.length) = some 0 := by decide +kernel
-- X0_serversAbove
theorem lk_X0_serversAbove_1 : Cond.fieldLink RX0 30 "EvenLoads$Cluster" "servers" "I" ∈ wsX0_serversAbove := List.mem_of_getElem? (i := 1) (by decide +kernel)
theorem lk_X0_serversAbove_2 : Cond.fieldLink RX0 24 "EvenLoads$Cluster" "loads" "[I" ∈ wsX0_serversAbove := List.mem_of_getElem? (i := 2) (by decide +kernel)
theorem lk_X0_serversAbove_3 : Cond.static yX4_at ∈ wsX0_serversAbove := List.mem_of_getElem? (i := 3) (by decide +kernel)
theorem lk_X0_serversAbove_4 : Cond.initialized RX4 ∈ wsX0_serversAbove := List.mem_of_getElem? (i := 4) (by decide +kernel)
theorem in_X0_serversAbove_X0 : ∀ w ∈ wsX00, w ∈ wsX0_serversAbove := by decide +kernel
set_option maxHeartbeats 4000000 in
set_option maxRecDepth 100000 in
theorem c_X0_serversAbove (l : Launch) (G : va_G) (cI cQ : ClassId) (h : Nat → Nat) (c : CS) (hv : knv c ≤ 6) (hj : knj c ≤ 24) (p0 : Int32) : Met l yX0_serversAbove wsX0_serversAbove ({ frames := 1, cells := 0, slots := 0, locals := 21 } : Room) (pPc G cI cQ [.ref (h 0), .int p0] ((clT cI h c))) (vp_Si (fun r => r = sAbove c p0)) 0 0 (fun _ => False) := by
  refine pm_of (cc := cX0_serversAbove) (maxL := 4) (ret := (some .int)) (own := RX0) (by decide) rfl rfl (Nat.le_of_ble_eq_true rfl) rfl ?_
  intro p e s m below meth cd ls hx hb hr hts hown hlocks hml hK hP hl
  refine lv_iconst (v := 0) hx hb dX0_serversAbove_0 (by decide) ?_
  refine lv_istore_n (lv' := [(2, .int 0), (0, .ref (h 0)), (1, .int p0)]) hx hb dX0_serversAbove_1 rfl hl (by decide) rfl (fun ls hl => ?_)
  refine lv_iconst (v := 0) hx hb dX0_serversAbove_2 (by decide) ?_
  refine lv_istore_n (lv' := [(3, .int 0), (2, .int 0), (0, .ref (h 0)), (1, .int p0)]) hx hb dX0_serversAbove_3 rfl hl (by decide) rfl (fun ls hl => ?_)
  have L4 : ∀ (n4 i4 : Nat), 0 ≤ i4 → i4 ≤ knv c → knv c + 1 ≤ i4 + n4 → ∀ (ls : Array Slot), lv_has ls 4 [(3, .int (nI i4)), (2, .int (abF c p0 i4)), (0, .ref (h 0)), (1, .int p0)] → W p l e ({ frames := 1, cells := 0, slots := 0, locals := 21 } : Room) s m ([.ref (h 0), .int p0] : List Value).toArray below meth cd s.heap [] 0 0 (MQ below (vp_Si (fun r => r = sAbove c p0)) ([.ref (h 0), .int p0] : List Value).toArray s 0 0 (fun _ => False)) (F0 m 4 ls []) := by
    intro n4
    induction n4 with
    | zero => intro i4 h0 h1 h2; exact absurd h2 (by omega)
    | succ n4 ih4 =>
      intro i4 hlo4 hle4 hin4 ls hl
      refine lv_iload_n hx hb dX0_serversAbove_4 rfl (lv_at hl 0 rfl) ?_
      refine lv_aload_n hx hb dX0_serversAbove_5 rfl (lv_at hl 2 rfl) ?_
      refine va_get (D := G) (ci := 0) (v := .int (nI (knv c))) (C := RX0) (T := TX0) (N := 13) hx hb hts in_X0_serversAbove_X0 hown hK.1 hP 0 rfl rfl 6 (by decide) (hts _ lk_X0_serversAbove_1) (fun _ h9 => h9) rfl dX0_serversAbove_6 ?_
      refine lv_icmp_ge (tgt := 33) hx hb dX0_serversAbove_9 (by decide) (fun c_1 => ?_) (fun c_1 => ?_)
      · skip
        have q_2 : i4 = knv c := by have h9 := (nI_leI (by omega) (by omega)).mp c_1; omega
        subst q_2
        refine lv_iload_n hx hb dX0_serversAbove_33 rfl (lv_at hl 1 rfl) ?_
        exact p_ret hx hb hr hlocks rfl (by first | rfl | (simp only [abF, sAbove, if_true, if_false, and_true, true_and, and_false, false_and, or_true, true_or, or_false, false_or, not_true_eq_false, not_false_eq_true, ne_eq, ite_true, ite_false]) | (simp only [abF, sAbove, if_true, if_false, and_true, true_and, and_false, false_and, or_true, true_or, or_false, false_or, not_true_eq_false, not_false_eq_true, ne_eq, ite_true, ite_false]; rfl)) dX0_serversAbove_34
      · skip
        have hlt4 : i4 < knv c := Nat.lt_of_not_le (fun q => c_1 ((nI_leI (by omega) (by omega)).mpr q))
        refine lv_aload_n hx hb dX0_serversAbove_12 rfl (lv_at hl 2 rfl) ?_
        refine va_get (D := G) (ci := 0) (v := .ref (h 5)) (C := RX0) (T := TX0) (N := 13) hx hb hts in_X0_serversAbove_X0 hown hK.1 hP 0 rfl rfl 4 (by decide) (hts _ lk_X0_serversAbove_2) (fun _ h9 => h9) rfl dX0_serversAbove_13 ?_
        refine lv_iload_n hx hb dX0_serversAbove_16 rfl (lv_at hl 0 rfl) ?_
        refine pcSN (rest := []) ⟨hx, hb, hml, hown, hts⟩ (c_X4_at l G cI cQ (h 5) 6 (kld c) (nI i4) (by decide)) ⟨va_cnB 2 hts gX0_serversAbove_X4_at_n67 rfl rfl rfl (hK.2.m 6 rfl) (hts _ lk_X0_serversAbove_4) cd_X4_at.2 ⟨Nat.le_of_ble_eq_true rfl, Nat.le_of_ble_eq_true rfl⟩, hts _ lk_X0_serversAbove_3, trivial⟩ hK hP [5] rfl rfl hl.1 rfl (Nat.le_of_ble_eq_true rfl) dX0_serversAbove_17 ⟨Nat.zero_le _, Nat.zero_le _⟩ ?_
        refine lv_iload_n hx hb dX0_serversAbove_20 rfl (lv_at hl 3 rfl) ?_
        refine lv_icmp_le (tgt := 27) hx hb dX0_serversAbove_21 (by decide) (fun c_3 => ?_) (fun c_3 => ?_)
        · skip
          refine lv_iinc (v := (nI (i4 + 1))) (lv' := [(3, .int (nI (i4 + 1))), (2, .int (abF c p0 i4)), (0, .ref (h 0)), (1, .int p0)]) hx hb dX0_serversAbove_27 hl (k := 0) rfl (nI_1 i4) (by decide) rfl (fun ls hl => ?_)
          refine lv_goto (tgt := 4) hx hb dX0_serversAbove_30 (by decide) ?_
          have e_4 : (abF c p0 (i4 + 1)) = (abF c p0 i4) := by first | rfl | (simp only [abF, sAbove, eq_true c_3, eq_false (Int32.not_lt.mpr c_3), if_true, if_false, and_true, true_and, and_false, false_and, or_true, true_or, or_false, false_or, not_true_eq_false, not_false_eq_true, ne_eq, ite_true, ite_false]) | (simp only [abF, sAbove, eq_true c_3, eq_false (Int32.not_lt.mpr c_3), if_true, if_false, and_true, true_and, and_false, false_and, or_true, true_or, or_false, false_or, not_true_eq_false, not_false_eq_true, ne_eq, ite_true, ite_false]; rfl)
          exact ih4 (i4 + 1) (by omega) (by omega) (by omega) ls (by rw [e_4]; exact lv_sub hl [0, 1, 2, 3] rfl)
        · skip
          refine lv_iinc (v := ((abF c p0 i4) + 1)) (lv' := [(2, .int ((abF c p0 i4) + 1)), (3, .int (nI i4)), (0, .ref (h 0)), (1, .int p0)]) hx hb dX0_serversAbove_24 hl (k := 1) rfl rfl (by decide) rfl (fun ls hl => ?_)
          refine lv_iinc (v := (nI (i4 + 1))) (lv' := [(3, .int (nI (i4 + 1))), (2, .int ((abF c p0 i4) + 1)), (0, .ref (h 0)), (1, .int p0)]) hx hb dX0_serversAbove_27 hl (k := 1) rfl (nI_1 i4) (by decide) rfl (fun ls hl => ?_)
          refine lv_goto (tgt := 4) hx hb dX0_serversAbove_30 (by decide) ?_
          have e_5 : (abF c p0 (i4 + 1)) = ((abF c p0 i4) + 1) := by first | rfl | (simp only [abF, sAbove, eq_false c_3, eq_true (Int32.not_le.mp c_3), if_true, if_false, and_true, true_and, and_false, false_and, or_true, true_or, or_false, false_or, not_true_eq_false, not_false_eq_true, ne_eq, ite_true, ite_false]) | (simp only [abF, sAbove, eq_false c_3, eq_true (Int32.not_le.mp c_3), if_true, if_false, and_true, true_and, and_false, false_and, or_true, true_or, or_false, false_or, not_true_eq_false, not_false_eq_true, ne_eq, ite_true, ite_false]; rfl)
          exact ih4 (i4 + 1) (by omega) (by omega) (by omega) ls (by rw [e_5]; exact lv_sub hl [0, 1, 2, 3] rfl)
  have e_6 : (nI 0) = 0 := by first | rfl | decide
  have e_7 : (abF c p0 0) = 0 := by first | rfl | (simp only [abF, sAbove, if_true, if_false, and_true, true_and, and_false, false_and, or_true, true_or, or_false, false_or, not_true_eq_false, not_false_eq_true, ne_eq, ite_true, ite_false]) | (simp only [abF, sAbove, if_true, if_false, and_true, true_and, and_false, false_and, or_true, true_or, or_false, false_or, not_true_eq_false, not_false_eq_true, ne_eq, ite_true, ite_false]; rfl)
  exact L4 (knv c + 1) 0 (by omega) (by omega) (by omega) ls (by rw [e_6]; rw [e_7]; exact lv_sub hl [0, 1, 2, 3] rfl)
theorem cd_X0_serversAbove : yX0_serversAbove.cls = RX0 ∧ yX0_serversAbove.cls ≠ "java/lang/invoke/MethodHandle" ∧ yX0_serversAbove.cls ≠ "java/lang/invoke/VarHandle" ∧ (parseMethodDescriptor yX0_serversAbove.desc).map (fun d => d.parameters.length) = some 1 := by decide +kernel
