-- X5_leaving
set_option maxHeartbeats 4000000 in
set_option maxRecDepth 100000 in
theorem c_X5_leaving (l : Launch) (G : va_G) (cI cQ : ClassId) (q : Nat → Nat) (z : MS) (nv nj : Nat) (hm : MI (kMs z) nv nj) (p0 : Int32) (p1 : Int32) : Met l yX5_leaving wsX5_leaving ({ frames := 2, cells := 0, slots := 0, locals := 47 } : Room) (pPc G cI cQ [.ref (q 0), .int p0, .int p1] ((mdT cI q z))) (vp_Si (fun r => r = (rMLeav (kMs z) nv nj p0 p1))) 0 0 (fun _ => False) := by
  refine pm_of (cc := cX5_leaving) (maxL := 6) (ret := (some .int)) (own := RX5) (by decide) rfl rfl (Nat.le_of_ble_eq_true rfl) rfl ?_
  intro p e s m below meth cd ls hx hb hr hts hown hlocks hml hK hP hl
  refine lv_aload_n hx hb dX5_leaving_0 rfl (lv_at hl 0 rfl) ?_
  refine lv_iload_n hx hb dX5_leaving_1 rfl (lv_at hl 1 rfl) ?_
  refine pcV (rest := []) ⟨hx, hb, hml, hown, hts⟩ (c_X5_isServer l G cI cQ q z nv nj hm p0) (cwV 1 hts gX5_leaving_X5_isServer rfl rfl rfl cd_X5_isServer ⟨Nat.le_of_ble_eq_true rfl, Nat.le_of_ble_eq_true rfl⟩) hK hP [0, 1, 2, 3, 4, 5, 6] rfl 0 rfl rfl rfl rfl hl.1 rfl (Nat.le_of_ble_eq_true rfl) dX5_leaving_2 ⟨Nat.zero_le _, Nat.zero_le _⟩ ?_
  refine lv_if_eq (tgt := 12) hx hb dX5_leaving_5 (by decide) (fun c_1 => ?_) (fun c_1 => ?_)
  · skip
    have c_1 := bI_0.mp c_1
    refine lv_iconst (v := (-1)) hx hb dX5_leaving_12 (by decide) ?_
    exact p_ret hx hb hr hlocks rfl (by first | rfl | (simp only [rMLeav, eq_false c_1, if_true, if_false, and_true, true_and, and_false, false_and, or_true, true_or, or_false, false_or, not_true_eq_false, not_false_eq_true, ne_eq, ite_true, ite_false]; done) | (simp only [rMLeav, eq_false c_1, if_true, if_false, and_true, true_and, and_false, false_and, or_true, true_or, or_false, false_or, not_true_eq_false, not_false_eq_true, ne_eq, ite_true, ite_false]; rfl)) dX5_leaving_13
  · skip
    have c_1 := bI_n0.mp c_1
    refine lv_iload_n hx hb dX5_leaving_8 rfl (lv_at hl 2 rfl) ?_
    refine lv_if_ge (tgt := 14) hx hb dX5_leaving_9 (by decide) (fun c_2 => ?_) (fun c_2 => ?_)
    · skip
      have hN9 := (pos_nI c_2).1
      have eN9 := (pos_nI c_2).2
      refine lv_iconst (v := 0) hx hb dX5_leaving_14 (by decide) ?_
      refine lv_istore_n (lv' := [(3, .int 0), (0, .ref (q 0)), (1, .int p0), (2, .int p1)]) hx hb dX5_leaving_15 rfl hl (by decide) rfl (fun ls hl => ?_)
      refine lv_aload_n hx hb dX5_leaving_16 rfl (lv_at hl 1 rfl) ?_
      refine lv_iload_n hx hb dX5_leaving_17 rfl (lv_at hl 2 rfl) ?_
      refine lv_iconst (v := 0) hx hb dX5_leaving_18 (by decide) ?_
      refine pcV (rest := []) ⟨hx, hb, hml, hown, hts⟩ (c_X5_leaver l G cI cQ q z nv nj hm p0 0) (cwV 2 hts gX5_leaving_X5_leaver rfl rfl rfl cd_X5_leaver ⟨Nat.le_of_ble_eq_true rfl, Nat.le_of_ble_eq_true rfl⟩) hK hP [0, 1, 2, 3, 4, 5, 6] rfl 0 rfl rfl rfl rfl hl.1 rfl (Nat.le_of_ble_eq_true rfl) dX5_leaving_19 ⟨Nat.zero_le _, Nat.zero_le _⟩ ?_
      refine lv_istore (lv' := [(4, .int (mLeaver (kMs z) nj p0 0)), (3, .int 0), (0, .ref (q 0)), (1, .int p0), (2, .int p1)]) hx hb dX5_leaving_22 hl (by decide) rfl (fun ls hl => ?_)
      refine lv_iconst (v := 0) hx hb dX5_leaving_24 (by decide) ?_
      refine lv_istore (lv' := [(5, .int 0), (4, .int (mLeaver (kMs z) nj p0 0)), (3, .int 0), (0, .ref (q 0)), (1, .int p0), (2, .int p1)]) hx hb dX5_leaving_25 hl (by decide) rfl (fun ls hl => ?_)
      have L27 : ∀ (n27 i27 : Nat), 0 ≤ i27 → i27 ≤ p1.toNatClampNeg → p1.toNatClampNeg + 1 ≤ i27 + n27 → lwF (kMs z) nj p0 p1.toNatClampNeg 0 = lwF (kMs z) nj p0 (p1.toNatClampNeg - i27) (gnF (kMs z) nj p0 i27) → ∀ (ls : Array Slot), lv_has ls 6 [(5, .int (nI i27)), (3, .int (gnF (kMs z) nj p0 i27)), (4, .int (mLeaver (kMs z) nj p0 (gnF (kMs z) nj p0 i27))), (0, .ref (q 0)), (1, .int p0), (2, .int p1)] → W p l e ({ frames := 2, cells := 0, slots := 0, locals := 47 } : Room) s m ([.ref (q 0), .int p0, .int p1] : List Value).toArray below meth cd s.heap [] 0 0 (MQ below (vp_Si (fun r => r = (rMLeav (kMs z) nv nj p0 p1))) ([.ref (q 0), .int p0, .int p1] : List Value).toArray s 0 0 (fun _ => False)) (F0 m 27 ls []) := by
        intro n27
        induction n27 with
        | zero => intro i27 h0 h1 h2; exact absurd h2 (by omega)
        | succ n27 ih27 =>
          intro i27 hlo27 hle27 hin27 hinv ls hl
          refine lv_iload hx hb dX5_leaving_27 (lv_at hl 0 rfl) ?_
          refine lv_iload_n hx hb dX5_leaving_29 rfl (lv_at hl 5 rfl) ?_
          refine lv_cvt (y := (nI p1.toNatClampNeg)) eN9 ?_
          refine lv_icmp_ge (tgt := 61) hx hb dX5_leaving_30 (by decide) (fun c_3 => ?_) (fun c_3 => ?_)
          · skip
            have q_4 : p1.toNatClampNeg = i27 := by have h9 := (nI_leI (a := p1.toNatClampNeg) (b := i27) (by omega) (by omega)).mp c_3; omega
            subst q_4
            refine lv_iload hx hb dX5_leaving_61 (lv_at hl 2 rfl) ?_
            exact p_ret hx hb hr hlocks rfl (by rw [rMLeav, if_pos ⟨c_1, c_2⟩, hinv, Nat.sub_self]; rfl) dX5_leaving_63
          · skip
            have hlt27 : i27 < p1.toNatClampNeg := Nat.lt_of_not_le (fun q => c_3 ((nI_leI (a := p1.toNatClampNeg) (b := i27) (by omega) (by omega)).mpr q))
            refine lv_iload hx hb dX5_leaving_33 (lv_at hl 2 rfl) ?_
            refine lv_bipush (v := (-9)) hx hb dX5_leaving_35 (by decide) ?_
            refine lv_icmp_eq (tgt := 61) hx hb dX5_leaving_37 (by decide) (fun c_5 => ?_) (fun c_5 => ?_)
            · skip
              refine lv_iload hx hb dX5_leaving_61 (lv_at hl 2 rfl) ?_
              exact p_ret hx hb hr hlocks rfl (by rw [rMLeav, if_pos ⟨c_1, c_2⟩, hinv, show p1.toNatClampNeg - i27 = (p1.toNatClampNeg - (i27 + 1)) + 1 from by omega, lwF, if_pos c_5]; exact c_5) dX5_leaving_63
            · skip
              refine lv_iload_n hx hb dX5_leaving_40 rfl (lv_at hl 1 rfl) ?_
              refine lv_iconst (v := 1) hx hb dX5_leaving_41 (by decide) ?_
              refine lv_iload hx hb dX5_leaving_42 (lv_at hl 2 rfl) ?_
              refine lv_ishl hx hb dX5_leaving_44 ?_
              refine lv_ior hx hb dX5_leaving_45 ?_
              refine lv_istore_n (lv' := [(3, .int ((gnF (kMs z) nj p0 i27) ||| (1 <<< ((mLeaver (kMs z) nj p0 (gnF (kMs z) nj p0 i27)) &&& 31)))), (5, .int (nI i27)), (4, .int (mLeaver (kMs z) nj p0 (gnF (kMs z) nj p0 i27))), (0, .ref (q 0)), (1, .int p0), (2, .int p1)]) hx hb dX5_leaving_46 rfl hl (by decide) rfl (fun ls hl => ?_)
              refine lv_aload_n hx hb dX5_leaving_47 rfl (lv_at hl 3 rfl) ?_
              refine lv_iload_n hx hb dX5_leaving_48 rfl (lv_at hl 4 rfl) ?_
              refine lv_iload_n hx hb dX5_leaving_49 rfl (lv_at hl 0 rfl) ?_
              refine pcV (rest := []) ⟨hx, hb, hml, hown, hts⟩ (c_X5_leaver l G cI cQ q z nv nj hm p0 ((gnF (kMs z) nj p0 i27) ||| (1 <<< ((mLeaver (kMs z) nj p0 (gnF (kMs z) nj p0 i27)) &&& 31)))) (cwV 2 hts gX5_leaving_X5_leaver rfl rfl rfl cd_X5_leaver ⟨Nat.le_of_ble_eq_true rfl, Nat.le_of_ble_eq_true rfl⟩) hK hP [0, 1, 2, 3, 4, 5, 6] rfl 0 rfl rfl rfl rfl hl.1 rfl (Nat.le_of_ble_eq_true rfl) dX5_leaving_50 ⟨Nat.zero_le _, Nat.zero_le _⟩ ?_
              refine lv_istore (lv' := [(4, .int (mLeaver (kMs z) nj p0 ((gnF (kMs z) nj p0 i27) ||| (1 <<< ((mLeaver (kMs z) nj p0 (gnF (kMs z) nj p0 i27)) &&& 31))))), (3, .int ((gnF (kMs z) nj p0 i27) ||| (1 <<< ((mLeaver (kMs z) nj p0 (gnF (kMs z) nj p0 i27)) &&& 31)))), (5, .int (nI i27)), (0, .ref (q 0)), (1, .int p0), (2, .int p1)]) hx hb dX5_leaving_53 hl (by decide) rfl (fun ls hl => ?_)
              refine lv_iinc (v := (nI (i27 + 1))) (lv' := [(5, .int (nI (i27 + 1))), (4, .int (mLeaver (kMs z) nj p0 ((gnF (kMs z) nj p0 i27) ||| (1 <<< ((mLeaver (kMs z) nj p0 (gnF (kMs z) nj p0 i27)) &&& 31))))), (3, .int ((gnF (kMs z) nj p0 i27) ||| (1 <<< ((mLeaver (kMs z) nj p0 (gnF (kMs z) nj p0 i27)) &&& 31)))), (0, .ref (q 0)), (1, .int p0), (2, .int p1)]) hx hb dX5_leaving_55 hl (k := 2) rfl (nI_1 i27) (by decide) rfl (fun ls hl => ?_)
              refine lv_goto (tgt := 27) hx hb dX5_leaving_58 (by decide) ?_
              have e_6 : (gnF (kMs z) nj p0 (i27 + 1)) = ((gnF (kMs z) nj p0 i27) ||| (1 <<< ((mLeaver (kMs z) nj p0 (gnF (kMs z) nj p0 i27)) &&& 31))) := by rfl
              have e_7 : (mLeaver (kMs z) nj p0 (gnF (kMs z) nj p0 (i27 + 1))) = (mLeaver (kMs z) nj p0 ((gnF (kMs z) nj p0 i27) ||| (1 <<< ((mLeaver (kMs z) nj p0 (gnF (kMs z) nj p0 i27)) &&& 31)))) := by rfl
              exact ih27 (i27 + 1) (by omega) (by omega) (by omega) (by rw [hinv, show p1.toNatClampNeg - i27 = (p1.toNatClampNeg - (i27 + 1)) + 1 from by omega, lwF, if_neg c_5]; rfl) ls (by rw [e_7]; rw [e_6]; exact lv_sub hl [0, 2, 1, 3, 4, 5] rfl)
      have e_8 : (nI 0) = 0 := by first | rfl | decide
      have e_9 : (gnF (kMs z) nj p0 0) = 0 := by rfl
      have e_10 : (mLeaver (kMs z) nj p0 (gnF (kMs z) nj p0 0)) = (mLeaver (kMs z) nj p0 0) := by rfl
      exact L27 (p1.toNatClampNeg + 1) 0 (by omega) (by omega) (by omega) (by rw [Nat.sub_zero]; rfl) ls (by rw [e_10]; rw [e_9]; rw [e_8]; exact lv_sub hl [0, 2, 1, 3, 4, 5] rfl)
    · skip
      refine lv_iconst (v := (-1)) hx hb dX5_leaving_12 (by decide) ?_
      exact p_ret hx hb hr hlocks rfl (by first | rfl | (simp only [rMLeav, eq_true c_1, eq_false c_2, eq_true (Int32.not_le.mp c_2), if_true, if_false, and_true, true_and, and_false, false_and, or_true, true_or, or_false, false_or, not_true_eq_false, not_false_eq_true, ne_eq, ite_true, ite_false]; done) | (simp only [rMLeav, eq_true c_1, eq_false c_2, eq_true (Int32.not_le.mp c_2), if_true, if_false, and_true, true_and, and_false, false_and, or_true, true_or, or_false, false_or, not_true_eq_false, not_false_eq_true, ne_eq, ite_true, ite_false]; rfl)) dX5_leaving_13
theorem cd_X5_leaving : yX5_leaving.cls = RX5 ∧ yX5_leaving.cls ≠ "java/lang/invoke/MethodHandle" ∧ yX5_leaving.cls ≠ "java/lang/invoke/VarHandle" ∧ (parseMethodDescriptor yX5_leaving.desc).map (fun d => d.parameters.length) = some 2 := by decide +kernel
-- X5_look
theorem lk_X5_look_1 : Cond.fieldLink RX5 160 "EvenLoadsModel" "at" "I" ∈ wsX5_look := List.mem_of_getElem? (i := 1) (by decide +kernel)
theorem lk_X5_look_2 : Cond.fieldLink RX5 157 "EvenLoadsModel" "typed" "I" ∈ wsX5_look := List.mem_of_getElem? (i := 2) (by decide +kernel)
theorem lk_X5_look_3 : Cond.fieldLink RX5 19 "EvenLoadsModel" "text" "[I" ∈ wsX5_look := List.mem_of_getElem? (i := 3) (by decide +kernel)
theorem in_X5_look_X5 : ∀ w ∈ wsX50, w ∈ wsX5_look := by decide +kernel
set_option maxHeartbeats 4000000 in
set_option maxRecDepth 100000 in
theorem c_X5_look (l : Launch) (G : va_G) (cI cQ : ClassId) (q : Nat → Nat) (z : MS) (hT : mT z) : Met l yX5_look wsX5_look ({ frames := 0, cells := 0, slots := 0, locals := 0 } : Room) (pPc G cI cQ [.ref (q 0)] ((mdT cI q z))) (vp_Si (fun r => r = (rLook z))) 0 0 (fun _ => False) := by
  refine pm_of (cc := cX5_look) (maxL := 1) (ret := (some .int)) (own := RX5) (by decide) rfl rfl (Nat.le_of_ble_eq_true rfl) rfl ?_
  intro p e s m below meth cd ls hx hb hr hts hown hlocks hml hK hP hl
  refine lv_aload_n hx hb dX5_look_0 rfl (lv_at hl 0 rfl) ?_
  refine va_get (D := G) (ci := 5) (v := .int (nI (kMat z))) (C := RX5) (T := TX5) (N := 15) hx hb hts in_X5_look_X5 hown hK.1 hP 0 rfl rfl 10 (by decide) (hts _ lk_X5_look_1) (fun _ h9 => h9) rfl dX5_look_1 ?_
  refine lv_aload_n hx hb dX5_look_4 rfl (lv_at hl 0 rfl) ?_
  refine va_get (D := G) (ci := 5) (v := .int (nI (kMtyped z))) (C := RX5) (T := TX5) (N := 15) hx hb hts in_X5_look_X5 hown hK.1 hP 0 rfl rfl 9 (by decide) (hts _ lk_X5_look_2) (fun _ h9 => h9) rfl dX5_look_5 ?_
  refine lv_icmp_ge (tgt := 23) hx hb dX5_look_8 (by decide) (fun c_1 => ?_) (fun c_1 => ?_)
  · skip
    refine lv_iconst (v := (-1)) hx hb dX5_look_23 (by decide) ?_
    exact p_ret hx hb hr hlocks rfl (by first | rfl | (simp only [rLook, eq_true c_1, eq_false (Int32.not_lt.mpr c_1), if_true, if_false, and_true, true_and, and_false, false_and, or_true, true_or, or_false, false_or, not_true_eq_false, not_false_eq_true, ne_eq, ite_true, ite_false]; done) | (simp only [rLook, eq_true c_1, eq_false (Int32.not_lt.mpr c_1), if_true, if_false, and_true, true_and, and_false, false_and, or_true, true_or, or_false, false_or, not_true_eq_false, not_false_eq_true, ne_eq, ite_true, ite_false]; rfl)) dX5_look_24
  · skip
    have ha9 : kMat z < 100 := by have h9 : ¬ kMtyped z ≤ kMat z := fun q => c_1 ((look_c hT).mpr q); have := hT.2; omega
    refine lv_aload_n hx hb dX5_look_11 rfl (lv_at hl 0 rfl) ?_
    refine va_get (D := G) (ci := 5) (v := .ref (q 4)) (C := RX5) (T := TX5) (N := 15) hx hb hts in_X5_look_X5 hown hK.1 hP 0 rfl rfl 8 (by decide) (hts _ lk_X5_look_3) (fun _ h9 => h9) rfl dX5_look_12 ?_
    refine lv_aload_n hx hb dX5_look_15 rfl (lv_at hl 0 rfl) ?_
    refine va_get (D := G) (ci := 5) (v := .int (nI (kMat z))) (C := RX5) (T := TX5) (N := 15) hx hb hts in_X5_look_X5 hown hK.1 hP 0 rfl rfl 10 (by decide) (hts _ lk_X5_look_1) (fun _ h9 => h9) rfl dX5_look_16 ?_
    refine iald_n hx hb hK hP 4 rfl (kMat z) rfl (by omega) (by decide) dX5_look_19 ?_
    refine lv_goto (tgt := 24) hx hb dX5_look_20 (by decide) ?_
    exact p_ret hx hb hr hlocks rfl (by first | rfl | (simp only [rLook, eq_false c_1, eq_true (Int32.not_le.mp c_1), if_true, if_false, and_true, true_and, and_false, false_and, or_true, true_or, or_false, false_or, not_true_eq_false, not_false_eq_true, ne_eq, ite_true, ite_false]; done) | (simp only [rLook, eq_false c_1, eq_true (Int32.not_le.mp c_1), if_true, if_false, and_true, true_and, and_false, false_and, or_true, true_or, or_false, false_or, not_true_eq_false, not_false_eq_true, ne_eq, ite_true, ite_false]; rfl)) dX5_look_24
theorem cd_X5_look : yX5_look.cls = RX5 ∧ yX5_look.cls ≠ "java/lang/invoke/MethodHandle" ∧ yX5_look.cls ≠ "java/lang/invoke/VarHandle" ∧ (parseMethodDescriptor yX5_look.desc).map (fun d => d.parameters.length) = some 0 := by decide +kernel
-- X5_skips
theorem lk_X5_skips_1 : Cond.fieldLink RX5 160 "EvenLoadsModel" "at" "I" ∈ wsX5_skips := List.mem_of_getElem? (i := 1) (by decide +kernel)
theorem in_X5_skips_X5 : ∀ w ∈ wsX50, w ∈ wsX5_skips := by decide +kernel
set_option maxHeartbeats 4000000 in
set_option maxRecDepth 100000 in
theorem c_X5_skips (l : Launch) (G : va_G) (cI cQ : ClassId) (q : Nat → Nat) (z : MS) (hT : mT z) (sz0 : Nat) : Met l yX5_skips wsX5_skips ({ frames := 1, cells := 0, slots := 0, locals := 20 } : Room) (mPc G cI cQ [.ref (q 0)] ((mdT cI q z)) sz0) (va_Qi (fun (r : Int32) (_ : Unit) => r = (nI (sk z))) (mB G (va_A ((mdT cI q z)) sz0) (fun _ => (mdT cI q (uMat z (kMat z + sk z))))) (va_A ((mdT cI q z)) sz0)) 0 0 (va_A ((mdT cI q z)) sz0) := by
  refine mm_of (cc := cX5_skips) (maxL := 2) (ret := (some .int)) (own := RX5) (by decide) rfl rfl (Nat.le_of_ble_eq_true rfl) rfl ?_
  intro p e s m below meth cd ls A hx hb hr hts hown hlocks hml hA hK hP hD hS hl
  refine lv_iconst (v := 0) hx hb dX5_skips_0 (by decide) ?_
  refine lv_istore_n (lv' := [(1, .int 0), (0, .ref (q 0))]) hx hb dX5_skips_1 rfl hl (by decide) rfl (fun ls hl => ?_)
  have L2 : ∀ (n2 i2 : Nat), 0 ≤ i2 → i2 ≤ (kMtyped z - kMat z) → (kMtyped z - kMat z) + 1 ≤ i2 + n2 → sk z = skN (kMtext z) (kMtyped z - kMat z - i2) (kMat z + i2) + i2 → ∀ (H : Heap) (locs : List Loc), va_P G vwCl ((mdT cI q (uMat z (kMat z + i2)))) H → va_D A ((mdT cI q (uMat z (kMat z + i2)))) → va_S A s.heap H locs → ∀ (ls : Array Slot), lv_has ls 2 [(1, .int (nI i2)), (0, .ref (q 0))] → W p l e ({ frames := 1, cells := 0, slots := 0, locals := 20 } : Room) s m ([.ref (q 0)] : List Value).toArray below meth cd H locs 0 0 (MQ below (va_Qi (fun (r : Int32) (_ : Unit) => r = (nI (sk z))) (mB G (A) (fun _ => (mdT cI q (uMat z (kMat z + sk z))))) (A)) ([.ref (q 0)] : List Value).toArray s 0 0 A) (F0 m 2 ls []) := by
    intro n2
    induction n2 with
    | zero => intro i2 h0 h1 h2; exact absurd h2 (by omega)
    | succ n2 ih2 =>
      intro i2 hlo2 hle2 hin2 hinv H locs hP hD hS ls hl
      have hT1 := hT.1
      have hT2 := hT.2
      refine lv_aload_n hx hb dX5_skips_2 rfl (lv_at hl 1 rfl) ?_
      refine pcV (rest := []) ⟨hx, hb, hml, hown, hts⟩ (c_X5_look l G cI cQ q (uMat z (kMat z + i2)) (mT_at (by omega) hT)) (cwV 0 hts gX5_skips_X5_look rfl rfl rfl cd_X5_look ⟨Nat.le_of_ble_eq_true rfl, Nat.le_of_ble_eq_true rfl⟩) hK hP [0, 1, 2, 3, 4, 5, 6] rfl 0 rfl rfl rfl rfl hl.1 rfl (Nat.le_of_ble_eq_true rfl) dX5_skips_3 ⟨Nat.zero_le _, Nat.zero_le _⟩ ?_
      refine lv_bipush (v := 32) hx hb dX5_skips_6 (by decide) ?_
      refine lv_icmp_ne (tgt := 27) hx hb dX5_skips_8 (by decide) (fun c_1 => ?_) (fun c_1 => ?_)
      · skip
        have q9 : sk z = i2 := sk_no hT hle2 c_1 hinv
        subst q9
        refine lv_iload_n hx hb dX5_skips_27 rfl (lv_at hl 0 rfl) ?_
        exact m_ret () hx hb hr hlocks rfl (by first | rfl | (simp only [if_true, if_false, and_true, true_and, and_false, false_and, or_true, true_or, or_false, false_or, not_true_eq_false, not_false_eq_true, ne_eq, ite_true, ite_false]; done) | (simp only [if_true, if_false, and_true, true_and, and_false, false_and, or_true, true_or, or_false, false_or, not_true_eq_false, not_false_eq_true, ne_eq, ite_true, ite_false]; rfl)) (by rw [show (uMat z (kMat z + sk z)) = (uMat z (kMat z + (sk z))) from by first | rfl | (simp only [if_true, if_false, and_true, true_and, and_false, false_and, or_true, true_or, or_false, false_or, not_true_eq_false, not_false_eq_true, ne_eq, ite_true, ite_false]; done) | (simp only [if_true, if_false, and_true, true_and, and_false, false_and, or_true, true_or, or_false, false_or, not_true_eq_false, not_false_eq_true, ne_eq, ite_true, ite_false]; rfl)]; exact hP) (by rw [show (uMat z (kMat z + sk z)) = (uMat z (kMat z + (sk z))) from by first | rfl | (simp only [if_true, if_false, and_true, true_and, and_false, false_and, or_true, true_or, or_false, false_or, not_true_eq_false, not_false_eq_true, ne_eq, ite_true, ite_false]; done) | (simp only [if_true, if_false, and_true, true_and, and_false, false_and, or_true, true_or, or_false, false_or, not_true_eq_false, not_false_eq_true, ne_eq, ite_true, ite_false]; rfl)]; exact hD) hS dX5_skips_28
      · skip
        have hlt2 := sk_in hT hle2 c_1
        refine lv_aload_n hx hb dX5_skips_11 rfl (lv_at hl 1 rfl) ?_
        refine lv_dup hx hb dX5_skips_12 rfl ?_
        refine va_get (D := G) (ci := 5) (v := .int (nI (kMat z + i2))) (C := RX5) (T := TX5) (N := 15) hx hb hts in_X5_skips_X5 hown hK.1 hP 0 rfl rfl 10 (by decide) (hts _ lk_X5_skips_1) (fun _ h9 => h9) rfl dX5_skips_13 ?_
        refine lv_iconst (v := 1) hx hb dX5_skips_16 (by decide) ?_
        refine lv_iadd hx hb dX5_skips_17 ?_
        refine lv_cvt (y := (nI ((kMat z + i2) + 1))) (nI_1 _) ?_
        refine va_put (D := G) (ci := 5) (v := .int (nI ((kMat z + i2) + 1))) (ty := .int) (C := RX5) (T := TX5) (N := 15) hx hb hts in_X5_skips_X5 tyX5 tyX5_ok nmX5 hown hK.1 hP hD hS 0 rfl rfl 10 (by decide) (hts _ lk_X5_skips_1) (fun _ h9 => h9) rfl (by decide +kernel) rfl rfl (Nat.le_of_ble_eq_true rfl) dX5_skips_18 (fun H locs hP hD hS => ?_)
        have hP : va_P G vwCl ((mdT cI q (uMat z ((kMat z + i2) + 1)))) H := hP
        have hD : va_D A ((mdT cI q (uMat z ((kMat z + i2) + 1)))) := hD
        refine lv_iinc (v := (nI (i2 + 1))) (lv' := [(1, .int (nI (i2 + 1))), (0, .ref (q 0))]) hx hb dX5_skips_21 hl (k := 0) rfl (nI_1 i2) (by decide) rfl (fun ls hl => ?_)
        refine lv_goto (tgt := 2) hx hb dX5_skips_24 (by decide) ?_
        have e_2 : (kMat z + (i2 + 1)) = ((kMat z + i2) + 1) := by first | rfl | (simp only [eq_true c_1, eq_true (Eq.symm c_1), if_true, if_false, and_true, true_and, and_false, false_and, or_true, true_or, or_false, false_or, not_true_eq_false, not_false_eq_true, ne_eq, ite_true, ite_false]; done) | (simp only [eq_true c_1, eq_true (Eq.symm c_1), if_true, if_false, and_true, true_and, and_false, false_and, or_true, true_or, or_false, false_or, not_true_eq_false, not_false_eq_true, ne_eq, ite_true, ite_false]; rfl)
        exact ih2 (i2 + 1) (by omega) (by omega) (by omega) (sk_go hT hlt2 c_1 hinv) _ _ (by rw [e_2]; exact hP) (by rw [e_2]; exact hD) hS ls (by exact lv_sub hl [0, 1] rfl)
  have e_3 : (nI 0) = 0 := by first | rfl | decide
  have e_4 : (kMat z + 0) = (kMat z) := by first | rfl | (simp only [if_true, if_false, and_true, true_and, and_false, false_and, or_true, true_or, or_false, false_or, not_true_eq_false, not_false_eq_true, ne_eq, ite_true, ite_false]; done) | (simp only [if_true, if_false, and_true, true_and, and_false, false_and, or_true, true_or, or_false, false_or, not_true_eq_false, not_false_eq_true, ne_eq, ite_true, ite_false]; rfl)
  exact L2 ((kMtyped z - kMat z) + 1) 0 (by omega) (by omega) (by omega) (by rw [Nat.sub_zero]; rfl) _ _ (by rw [e_4]; exact hP) (by rw [e_4]; exact hD) hS ls (by rw [e_3]; exact lv_sub hl [0, 1] rfl)
theorem cd_X5_skips : yX5_skips.cls = RX5 ∧ yX5_skips.cls ≠ "java/lang/invoke/MethodHandle" ∧ yX5_skips.cls ≠ "java/lang/invoke/VarHandle" ∧ (parseMethodDescriptor yX5_skips.desc).map (fun d => d.parameters.length) = some 0 := by decide +kernel
-- X5_manyOf
set_option maxHeartbeats 4000000 in
set_option maxRecDepth 100000 in
theorem c_X5_manyOf (l : Launch) (G : va_G) (cI cQ : ClassId) (p0 : Int32) : Met l yX5_manyOf wsX5_manyOf ({ frames := 0, cells := 0, slots := 0, locals := 0 } : Room) (pPc G cI cQ [.int p0] ([])) (vp_Si (fun r => r = numOf p0)) 0 0 (fun _ => False) := by
  refine pm_of (cc := cX5_manyOf) (maxL := 1) (ret := (some .int)) (own := RX5) (by decide) rfl rfl (Nat.le_of_ble_eq_true rfl) rfl ?_
  intro p e s m below meth cd ls hx hb hr hts hown hlocks hml hK hP hl
  refine lv_iload_n hx hb dX5_manyOf_0 rfl (lv_at hl 0 rfl) ?_
  by_cases c_1 : p0 = 102
  · skip
    refine lv_tableIn (tgt := 96) (off := 95) hx hb dX5_manyOf_1 (by rw [c_1]; decide) (by rw [c_1]; decide) (by rw [c_1]; rfl) (by decide) ?_
    refine lv_iconst (v := 1) hx hb dX5_manyOf_96 (by decide) ?_
    exact p_ret hx hb hr hlocks rfl (by first | rfl | (simp only [numOf, eq_true c_1, eq_true (Eq.symm c_1), if_true, if_false, and_true, true_and, and_false, false_and, or_true, true_or, or_false, false_or, not_true_eq_false, not_false_eq_true, ne_eq, ite_true, ite_false]; done) | (simp only [numOf, eq_true c_1, eq_true (Eq.symm c_1), if_true, if_false, and_true, true_and, and_false, false_and, or_true, true_or, or_false, false_or, not_true_eq_false, not_false_eq_true, ne_eq, ite_true, ite_false]; rfl)) dX5_manyOf_97
  by_cases c_2 : p0 = 106
  · skip
    refine lv_tableIn (tgt := 92) (off := 91) hx hb dX5_manyOf_1 (by rw [c_2]; decide) (by rw [c_2]; decide) (by rw [c_2]; rfl) (by decide) ?_
    refine lv_iconst (v := 3) hx hb dX5_manyOf_92 (by decide) ?_
    exact p_ret hx hb hr hlocks rfl (by first | rfl | (simp only [numOf, eq_false c_1, eq_false (Ne.symm c_1), eq_true c_2, eq_true (Eq.symm c_2), if_true, if_false, and_true, true_and, and_false, false_and, or_true, true_or, or_false, false_or, not_true_eq_false, not_false_eq_true, ne_eq, ite_true, ite_false]; done) | (simp only [numOf, eq_false c_1, eq_false (Ne.symm c_1), eq_true c_2, eq_true (Eq.symm c_2), if_true, if_false, and_true, true_and, and_false, false_and, or_true, true_or, or_false, false_or, not_true_eq_false, not_false_eq_true, ne_eq, ite_true, ite_false]; rfl)) dX5_manyOf_93
  by_cases c_3 : p0 = 109
  · skip
    refine lv_tableIn (tgt := 94) (off := 93) hx hb dX5_manyOf_1 (by rw [c_3]; decide) (by rw [c_3]; decide) (by rw [c_3]; rfl) (by decide) ?_
    refine lv_iconst (v := 2) hx hb dX5_manyOf_94 (by decide) ?_
    exact p_ret hx hb hr hlocks rfl (by first | rfl | (simp only [numOf, eq_false c_1, eq_false (Ne.symm c_1), eq_false c_2, eq_false (Ne.symm c_2), eq_true c_3, eq_true (Eq.symm c_3), if_true, if_false, and_true, true_and, and_false, false_and, or_true, true_or, or_false, false_or, not_true_eq_false, not_false_eq_true, ne_eq, ite_true, ite_false]; done) | (simp only [numOf, eq_false c_1, eq_false (Ne.symm c_1), eq_false c_2, eq_false (Ne.symm c_2), eq_true c_3, eq_true (Eq.symm c_3), if_true, if_false, and_true, true_and, and_false, false_and, or_true, true_or, or_false, false_or, not_true_eq_false, not_false_eq_true, ne_eq, ite_true, ite_false]; rfl)) dX5_manyOf_95
  by_cases c_4 : p0 = 112
  · skip
    refine lv_tableIn (tgt := 96) (off := 95) hx hb dX5_manyOf_1 (by rw [c_4]; decide) (by rw [c_4]; decide) (by rw [c_4]; rfl) (by decide) ?_
    refine lv_iconst (v := 1) hx hb dX5_manyOf_96 (by decide) ?_
    exact p_ret hx hb hr hlocks rfl (by first | rfl | (simp only [numOf, eq_false c_1, eq_false (Ne.symm c_1), eq_false c_2, eq_false (Ne.symm c_2), eq_false c_3, eq_false (Ne.symm c_3), eq_true c_4, eq_true (Eq.symm c_4), if_true, if_false, and_true, true_and, and_false, false_and, or_true, true_or, or_false, false_or, not_true_eq_false, not_false_eq_true, ne_eq, ite_true, ite_false]; done) | (simp only [numOf, eq_false c_1, eq_false (Ne.symm c_1), eq_false c_2, eq_false (Ne.symm c_2), eq_false c_3, eq_false (Ne.symm c_3), eq_true c_4, eq_true (Eq.symm c_4), if_true, if_false, and_true, true_and, and_false, false_and, or_true, true_or, or_false, false_or, not_true_eq_false, not_false_eq_true, ne_eq, ite_true, ite_false]; rfl)) dX5_manyOf_97
  by_cases c_5 : p0 = 114
  · skip
    refine lv_tableIn (tgt := 92) (off := 91) hx hb dX5_manyOf_1 (by rw [c_5]; decide) (by rw [c_5]; decide) (by rw [c_5]; rfl) (by decide) ?_
    refine lv_iconst (v := 3) hx hb dX5_manyOf_92 (by decide) ?_
    exact p_ret hx hb hr hlocks rfl (by first | rfl | (simp only [numOf, eq_false c_1, eq_false (Ne.symm c_1), eq_false c_2, eq_false (Ne.symm c_2), eq_false c_3, eq_false (Ne.symm c_3), eq_false c_4, eq_false (Ne.symm c_4), eq_true c_5, eq_true (Eq.symm c_5), if_true, if_false, and_true, true_and, and_false, false_and, or_true, true_or, or_false, false_or, not_true_eq_false, not_false_eq_true, ne_eq, ite_true, ite_false]; done) | (simp only [numOf, eq_false c_1, eq_false (Ne.symm c_1), eq_false c_2, eq_false (Ne.symm c_2), eq_false c_3, eq_false (Ne.symm c_3), eq_false c_4, eq_false (Ne.symm c_4), eq_true c_5, eq_true (Eq.symm c_5), if_true, if_false, and_true, true_and, and_false, false_and, or_true, true_or, or_false, false_or, not_true_eq_false, not_false_eq_true, ne_eq, ite_true, ite_false]; rfl)) dX5_manyOf_93
  by_cases c_6 : p0 = 120
  · skip
    refine lv_tableIn (tgt := 94) (off := 93) hx hb dX5_manyOf_1 (by rw [c_6]; decide) (by rw [c_6]; decide) (by rw [c_6]; rfl) (by decide) ?_
    refine lv_iconst (v := 2) hx hb dX5_manyOf_94 (by decide) ?_
    exact p_ret hx hb hr hlocks rfl (by first | rfl | (simp only [numOf, eq_false c_1, eq_false (Ne.symm c_1), eq_false c_2, eq_false (Ne.symm c_2), eq_false c_3, eq_false (Ne.symm c_3), eq_false c_4, eq_false (Ne.symm c_4), eq_false c_5, eq_false (Ne.symm c_5), eq_true c_6, eq_true (Eq.symm c_6), if_true, if_false, and_true, true_and, and_false, false_and, or_true, true_or, or_false, false_or, not_true_eq_false, not_false_eq_true, ne_eq, ite_true, ite_false]; done) | (simp only [numOf, eq_false c_1, eq_false (Ne.symm c_1), eq_false c_2, eq_false (Ne.symm c_2), eq_false c_3, eq_false (Ne.symm c_3), eq_false c_4, eq_false (Ne.symm c_4), eq_false c_5, eq_false (Ne.symm c_5), eq_true c_6, eq_true (Eq.symm c_6), if_true, if_false, and_true, true_and, and_false, false_and, or_true, true_or, or_false, false_or, not_true_eq_false, not_false_eq_true, ne_eq, ite_true, ite_false]; rfl)) dX5_manyOf_95
  refine sw_def (tgt := 98) hx hb dX5_manyOf_1 (sw_tab 19 (by decide) (by decide) (by decide) (fun k hk e => by rcases (show k = 0 ∨ k = 1 ∨ k = 2 ∨ k = 3 ∨ k = 4 ∨ k = 5 ∨ k = 6 ∨ k = 7 ∨ k = 8 ∨ k = 9 ∨ k = 10 ∨ k = 11 ∨ k = 12 ∨ k = 13 ∨ k = 14 ∨ k = 15 ∨ k = 16 ∨ k = 17 ∨ k = 18 by omega) with rfl | rfl | rfl | rfl | rfl | rfl | rfl | rfl | rfl | rfl | rfl | rfl | rfl | rfl | rfl | rfl | rfl | rfl | rfl <;> first | rfl | exact absurd (e.trans (by decide)) c_1 | exact absurd (e.trans (by decide)) c_2 | exact absurd (e.trans (by decide)) c_3 | exact absurd (e.trans (by decide)) c_4 | exact absurd (e.trans (by decide)) c_5 | exact absurd (e.trans (by decide)) c_6)) (by decide) ?_
  refine lv_iconst (v := 0) hx hb dX5_manyOf_98 (by decide) ?_
  exact p_ret hx hb hr hlocks rfl (by first | rfl | (simp only [numOf, eq_false c_1, eq_false (Ne.symm c_1), eq_false c_2, eq_false (Ne.symm c_2), eq_false c_3, eq_false (Ne.symm c_3), eq_false c_4, eq_false (Ne.symm c_4), eq_false c_5, eq_false (Ne.symm c_5), eq_false c_6, eq_false (Ne.symm c_6), if_true, if_false, and_true, true_and, and_false, false_and, or_true, true_or, or_false, false_or, not_true_eq_false, not_false_eq_true, ne_eq, ite_true, ite_false]; done) | (simp only [numOf, eq_false c_1, eq_false (Ne.symm c_1), eq_false c_2, eq_false (Ne.symm c_2), eq_false c_3, eq_false (Ne.symm c_3), eq_false c_4, eq_false (Ne.symm c_4), eq_false c_5, eq_false (Ne.symm c_5), eq_false c_6, eq_false (Ne.symm c_6), if_true, if_false, and_true, true_and, and_false, false_and, or_true, true_or, or_false, false_or, not_true_eq_false, not_false_eq_true, ne_eq, ite_true, ite_false]; rfl)) dX5_manyOf_99
theorem cd_X5_manyOf : yX5_manyOf.cls = RX5 ∧ yX5_manyOf.cls ≠ "java/lang/invoke/MethodHandle" ∧ yX5_manyOf.cls ≠ "java/lang/invoke/VarHandle" ∧ (parseMethodDescriptor yX5_manyOf.desc).map (fun d => d.parameters.length) = some 1 := by decide +kernel
-- X5_reads
theorem lk_X5_reads_1 : Cond.fieldLink RX5 160 "EvenLoadsModel" "at" "I" ∈ wsX5_reads := List.mem_of_getElem? (i := 1) (by decide +kernel)
theorem lk_X5_reads_2 : Cond.fieldLink RX5 166 "EvenLoadsModel" "failing" "I" ∈ wsX5_reads := List.mem_of_getElem? (i := 2) (by decide +kernel)
theorem lk_X5_reads_3 : Cond.fieldLink RX5 22 "EvenLoadsModel" "numbers" "[I" ∈ wsX5_reads := List.mem_of_getElem? (i := 3) (by decide +kernel)
theorem in_X5_reads_X5 : ∀ w ∈ wsX50, w ∈ wsX5_reads := by decide +kernel
set_option maxHeartbeats 4000000 in
set_option maxRecDepth 100000 in
theorem c_X5_reads (l : Launch) (G : va_G) (cI cQ : ClassId) (q : Nat → Nat) (z : MS) (hT : mT z) (k : Nat) (hk : k < 3) (sz0 : Nat) : Met l yX5_reads wsX5_reads ({ frames := 1, cells := 0, slots := 0, locals := 22 } : Room) (mPc G cI cQ [.ref (q 0), .int (nI k)] ((mdT cI q z)) sz0) (va_Qv (fun (_ : Unit) => True) (mB G (va_A ((mdT cI q z)) sz0) (fun _ => (mdT cI q (gRead z k)))) (va_A ((mdT cI q z)) sz0)) 0 0 (va_A ((mdT cI q z)) sz0) := by
  refine mm_ofv (cc := cX5_reads) (maxL := 4) (ret := none) (own := RX5) (by decide) rfl rfl (Nat.le_of_ble_eq_true rfl) rfl ?_
  intro p e s m below meth cd ls A hx hb hr hts hown hlocks hml hA hK hP hD hS hl
  refine lv_aload_n hx hb dX5_reads_0 rfl (lv_at hl 0 rfl) ?_
  refine va_get (D := G) (ci := 5) (v := .int (nI (kMat z))) (C := RX5) (T := TX5) (N := 15) hx hb hts in_X5_reads_X5 hown hK.1 hP 0 rfl rfl 10 (by decide) (hts _ lk_X5_reads_1) (fun _ h9 => h9) rfl dX5_reads_1 ?_
  refine lv_istore_n (lv' := [(2, .int (nI (kMat z))), (0, .ref (q 0)), (1, .int (nI k))]) hx hb dX5_reads_4 rfl hl (by decide) rfl (fun ls hl => ?_)
  refine lv_iconst (v := 0) hx hb dX5_reads_5 (by decide) ?_
  refine lv_istore_n (lv' := [(3, .int 0), (2, .int (nI (kMat z))), (0, .ref (q 0)), (1, .int (nI k))]) hx hb dX5_reads_6 rfl hl (by decide) rfl (fun ls hl => ?_)
  have L7 : ∀ (n7 i7 : Nat), 0 ≤ i7 → i7 ≤ 4 → 4 + 1 ≤ i7 + n7 → rd4 z = rdK z (4 - i7) i7 → kMat z + i7 ≤ kMtyped z → ∀ (H : Heap) (locs : List Loc), va_P G vwCl ((mdT cI q (uMat z (kMat z + i7)))) H → va_D A ((mdT cI q (uMat z (kMat z + i7)))) → va_S A s.heap H locs → ∀ (ls : Array Slot), lv_has ls 4 [(2, .int (nI (kMat z))), (3, .int (rdV z i7)), (0, .ref (q 0)), (1, .int (nI k))] → W p l e ({ frames := 1, cells := 0, slots := 0, locals := 22 } : Room) s m ([.ref (q 0), .int (nI k)] : List Value).toArray below meth cd H locs 0 0 (MQ below (va_Qv (fun (_ : Unit) => True) (mB G (A) (fun _ => (mdT cI q (gRead z k)))) (A)) ([.ref (q 0), .int (nI k)] : List Value).toArray s 0 0 A) (F0 m 7 ls []) := by
    intro n7
    induction n7 with
    | zero => intro i7 h0 h1 h2; exact absurd h2 (by omega)
    | succ n7 ih7 =>
      intro i7 hlo7 hle7 hin7 hinv hA H locs hP hD hS ls hl
      have hT1 := hT.1
      have hT2 := hT.2
      refine lv_aload_n hx hb dX5_reads_7 rfl (lv_at hl 2 rfl) ?_
      refine pcV (rest := []) ⟨hx, hb, hml, hown, hts⟩ (c_X5_look l G cI cQ q (uMat z (kMat z + i7)) (mT_at hA hT)) (cwV 0 hts gX5_reads_X5_look rfl rfl rfl cd_X5_look ⟨Nat.le_of_ble_eq_true rfl, Nat.le_of_ble_eq_true rfl⟩) hK hP [0, 1, 2, 3, 4, 5, 6] rfl 0 rfl rfl rfl rfl hl.1 rfl (Nat.le_of_ble_eq_true rfl) dX5_reads_8 ⟨Nat.zero_le _, Nat.zero_le _⟩ ?_
      refine lv_bipush (v := 48) hx hb dX5_reads_11 (by decide) ?_
      refine lv_bipush (v := 57) hx hb dX5_reads_13 (by decide) ?_
      refine pcS (rest := []) ⟨hx, hb, hml, hown, hts⟩ (c_X5_in l G cI cQ (rLook (uMat z (kMat z + i7))) 48 57) (cwS 3 hts gX5_reads_X5_in rfl rfl rfl cd_X5_in ⟨Nat.le_of_ble_eq_true rfl, Nat.le_of_ble_eq_true rfl⟩) hK hP [] rfl rfl hl.1 rfl (Nat.le_of_ble_eq_true rfl) dX5_reads_15 ⟨Nat.zero_le _, Nat.zero_le _⟩ ?_
      refine lv_if_eq (tgt := 69) hx hb dX5_reads_18 (by decide) (fun c_1 => ?_) (fun c_1 => ?_)
      · skip
        have c_1 := bI_0.mp c_1
        have q9 : rd4 z = i7 := hinv.trans (rd_no (fun h => c_1 h.1) _)
        subst q9
        refine lv_aload_n hx hb dX5_reads_69 rfl (lv_at hl 2 rfl) ?_
        refine lv_aload_n hx hb dX5_reads_70 rfl (lv_at hl 2 rfl) ?_
        refine va_get (D := G) (ci := 5) (v := .int (nI (kMat z + (rd4 z)))) (C := RX5) (T := TX5) (N := 15) hx hb hts in_X5_reads_X5 hown hK.1 hP 0 rfl rfl 10 (by decide) (hts _ lk_X5_reads_1) (fun _ h9 => h9) rfl dX5_reads_71 ?_
        refine lv_iload_n hx hb dX5_reads_74 rfl (lv_at hl 0 rfl) ?_
        refine lv_icmp_eq (tgt := 92) hx hb dX5_reads_75 (by decide) (fun c_2 => ?_) (fun c_2 => ?_)
        · skip
          refine lv_aload_n hx hb dX5_reads_92 rfl (lv_at hl 2 rfl) ?_
          refine va_get (D := G) (ci := 5) (v := .int (nI (kMat z + (rd4 z)))) (C := RX5) (T := TX5) (N := 15) hx hb hts in_X5_reads_X5 hown hK.1 hP 0 rfl rfl 10 (by decide) (hts _ lk_X5_reads_1) (fun _ h9 => h9) rfl dX5_reads_93 ?_
          refine lv_goto (tgt := 103) hx hb dX5_reads_96 (by decide) ?_
          refine va_put (D := G) (ci := 5) (v := .int (nI (kMat z + (rd4 z)))) (ty := .int) (C := RX5) (T := TX5) (N := 15) hx hb hts in_X5_reads_X5 tyX5 tyX5_ok nmX5 hown hK.1 hP hD hS 0 rfl rfl 11 (by decide) (hts _ lk_X5_reads_2) (fun _ h9 => h9) rfl (by decide +kernel) rfl rfl (Nat.le_of_ble_eq_true rfl) dX5_reads_103 (fun H locs hP hD hS => ?_)
          have hP : va_P G vwCl ((mdT cI q (uMfail (uMat z (kMat z + (rd4 z))) (nI (kMat z + (rd4 z)))))) H := hP
          have hD : va_D A ((mdT cI q (uMfail (uMat z (kMat z + (rd4 z))) (nI (kMat z + (rd4 z)))))) := hD
          refine lv_aload_n hx hb dX5_reads_106 rfl (lv_at hl 2 rfl) ?_
          refine va_get (D := G) (ci := 5) (v := .ref (q 5)) (C := RX5) (T := TX5) (N := 15) hx hb hts in_X5_reads_X5 hown hK.1 hP 0 rfl rfl 12 (by decide) (hts _ lk_X5_reads_3) (fun _ h9 => h9) rfl dX5_reads_107 ?_
          refine lv_iload_n hx hb dX5_reads_110 rfl (lv_at hl 3 rfl) ?_
          refine lv_iload_n hx hb dX5_reads_111 rfl (lv_at hl 1 rfl) ?_
          refine iast_n hx hb hK hP hD hS 5 rfl k rfl (by omega) (by decide) dX5_reads_112 (fun H locs hP hD hS => ?_)
          have hP : va_P G vwCl ((mdT cI q (uMnums (uMfail (uMat z (kMat z + (rd4 z))) (nI (kMat z + (rd4 z)))) (upd (kMnums z) k (rdV z (rd4 z)))))) H := hP
          have hD : va_D A ((mdT cI q (uMnums (uMfail (uMat z (kMat z + (rd4 z))) (nI (kMat z + (rd4 z)))) (upd (kMnums z) k (rdV z (rd4 z)))))) := hD
          exact m_vret () hx hb hr hlocks trivial (by rw [show (gRead z k) = (uMnums (uMfail (uMat z (kMat z + (rd4 z))) (nI (kMat z + (rd4 z)))) (upd (kMnums z) k (rdV z (rd4 z)))) from by (show gRead z k = _); unfold gRead; simp only [eq_true c_2, eq_true (Eq.symm c_2), if_true, if_false, and_true, true_and, and_false, false_and, or_true, true_or, or_false, false_or, not_true_eq_false, not_false_eq_true, ne_eq, ite_true, ite_false]]; exact hP) (by rw [show (gRead z k) = (uMnums (uMfail (uMat z (kMat z + (rd4 z))) (nI (kMat z + (rd4 z)))) (upd (kMnums z) k (rdV z (rd4 z)))) from by (show gRead z k = _); unfold gRead; simp only [eq_true c_2, eq_true (Eq.symm c_2), if_true, if_false, and_true, true_and, and_false, false_and, or_true, true_or, or_false, false_or, not_true_eq_false, not_false_eq_true, ne_eq, ite_true, ite_false]]; exact hD) hS dX5_reads_113
        · skip
          refine lv_aload_n hx hb dX5_reads_78 rfl (lv_at hl 2 rfl) ?_
          refine pcV (rest := [.ref (q 0)]) ⟨hx, hb, hml, hown, hts⟩ (c_X5_look l G cI cQ q (uMat z (kMat z + (rd4 z))) (mT_at hA hT)) (cwV 0 hts gX5_reads_X5_look rfl rfl rfl cd_X5_look ⟨Nat.le_of_ble_eq_true rfl, Nat.le_of_ble_eq_true rfl⟩) hK hP [0, 1, 2, 3, 4, 5, 6] rfl 0 rfl rfl rfl rfl hl.1 rfl (Nat.le_of_ble_eq_true rfl) dX5_reads_79 ⟨Nat.zero_le _, Nat.zero_le _⟩ ?_
          refine lv_bipush (v := 48) hx hb dX5_reads_82 (by decide) ?_
          refine lv_bipush (v := 57) hx hb dX5_reads_84 (by decide) ?_
          refine pcS (rest := [.ref (q 0)]) ⟨hx, hb, hml, hown, hts⟩ (c_X5_in l G cI cQ (rLook (uMat z (kMat z + (rd4 z)))) 48 57) (cwS 3 hts gX5_reads_X5_in rfl rfl rfl cd_X5_in ⟨Nat.le_of_ble_eq_true rfl, Nat.le_of_ble_eq_true rfl⟩) hK hP [] rfl rfl hl.1 rfl (Nat.le_of_ble_eq_true rfl) dX5_reads_86 ⟨Nat.zero_le _, Nat.zero_le _⟩ ?_
          refine lv_if_eq (tgt := 99) hx hb dX5_reads_89 (by decide) (fun c_3 => ?_) (fun c_3 => ?_)
          · skip
            have c_3 := bI_0.mp c_3
            refine lv_aload_n hx hb dX5_reads_99 rfl (lv_at hl 2 rfl) ?_
            refine va_get (D := G) (ci := 5) (v := .int (kMfail z)) (C := RX5) (T := TX5) (N := 15) hx hb hts in_X5_reads_X5 hown hK.1 hP 0 rfl rfl 11 (by decide) (hts _ lk_X5_reads_2) (fun _ h9 => h9) rfl dX5_reads_100 ?_
            refine va_put (D := G) (ci := 5) (v := .int (kMfail z)) (ty := .int) (C := RX5) (T := TX5) (N := 15) hx hb hts in_X5_reads_X5 tyX5 tyX5_ok nmX5 hown hK.1 hP hD hS 0 rfl rfl 11 (by decide) (hts _ lk_X5_reads_2) (fun _ h9 => h9) rfl (by decide +kernel) rfl rfl (Nat.le_of_ble_eq_true rfl) dX5_reads_103 (fun H locs hP hD hS => ?_)
            have hP : va_P G vwCl ((mdT cI q (uMfail (uMat z (kMat z + (rd4 z))) (kMfail z)))) H := hP
            have hD : va_D A ((mdT cI q (uMfail (uMat z (kMat z + (rd4 z))) (kMfail z)))) := hD
            refine lv_aload_n hx hb dX5_reads_106 rfl (lv_at hl 2 rfl) ?_
            refine va_get (D := G) (ci := 5) (v := .ref (q 5)) (C := RX5) (T := TX5) (N := 15) hx hb hts in_X5_reads_X5 hown hK.1 hP 0 rfl rfl 12 (by decide) (hts _ lk_X5_reads_3) (fun _ h9 => h9) rfl dX5_reads_107 ?_
            refine lv_iload_n hx hb dX5_reads_110 rfl (lv_at hl 3 rfl) ?_
            refine lv_iload_n hx hb dX5_reads_111 rfl (lv_at hl 1 rfl) ?_
            refine iast_n hx hb hK hP hD hS 5 rfl k rfl (by omega) (by decide) dX5_reads_112 (fun H locs hP hD hS => ?_)
            have hP : va_P G vwCl ((mdT cI q (uMnums (uMfail (uMat z (kMat z + (rd4 z))) (kMfail z)) (upd (kMnums z) k (rdV z (rd4 z)))))) H := hP
            have hD : va_D A ((mdT cI q (uMnums (uMfail (uMat z (kMat z + (rd4 z))) (kMfail z)) (upd (kMnums z) k (rdV z (rd4 z)))))) := hD
            exact m_vret () hx hb hr hlocks trivial (by rw [show (gRead z k) = (uMnums (uMfail (uMat z (kMat z + (rd4 z))) (kMfail z)) (upd (kMnums z) k (rdV z (rd4 z)))) from by (show gRead z k = _); unfold gRead; simp only [eq_false c_2, eq_false (Ne.symm c_2), eq_false c_3, if_true, if_false, and_true, true_and, and_false, false_and, or_true, true_or, or_false, false_or, not_true_eq_false, not_false_eq_true, ne_eq, ite_true, ite_false]]; exact hP) (by rw [show (gRead z k) = (uMnums (uMfail (uMat z (kMat z + (rd4 z))) (kMfail z)) (upd (kMnums z) k (rdV z (rd4 z)))) from by (show gRead z k = _); unfold gRead; simp only [eq_false c_2, eq_false (Ne.symm c_2), eq_false c_3, if_true, if_false, and_true, true_and, and_false, false_and, or_true, true_or, or_false, false_or, not_true_eq_false, not_false_eq_true, ne_eq, ite_true, ite_false]]; exact hD) hS dX5_reads_113
          · skip
            have c_3 := bI_n0.mp c_3
            refine lv_aload_n hx hb dX5_reads_92 rfl (lv_at hl 2 rfl) ?_
            refine va_get (D := G) (ci := 5) (v := .int (nI (kMat z + (rd4 z)))) (C := RX5) (T := TX5) (N := 15) hx hb hts in_X5_reads_X5 hown hK.1 hP 0 rfl rfl 10 (by decide) (hts _ lk_X5_reads_1) (fun _ h9 => h9) rfl dX5_reads_93 ?_
            refine lv_goto (tgt := 103) hx hb dX5_reads_96 (by decide) ?_
            refine va_put (D := G) (ci := 5) (v := .int (nI (kMat z + (rd4 z)))) (ty := .int) (C := RX5) (T := TX5) (N := 15) hx hb hts in_X5_reads_X5 tyX5 tyX5_ok nmX5 hown hK.1 hP hD hS 0 rfl rfl 11 (by decide) (hts _ lk_X5_reads_2) (fun _ h9 => h9) rfl (by decide +kernel) rfl rfl (Nat.le_of_ble_eq_true rfl) dX5_reads_103 (fun H locs hP hD hS => ?_)
            have hP : va_P G vwCl ((mdT cI q (uMfail (uMat z (kMat z + (rd4 z))) (nI (kMat z + (rd4 z)))))) H := hP
            have hD : va_D A ((mdT cI q (uMfail (uMat z (kMat z + (rd4 z))) (nI (kMat z + (rd4 z)))))) := hD
            refine lv_aload_n hx hb dX5_reads_106 rfl (lv_at hl 2 rfl) ?_
            refine va_get (D := G) (ci := 5) (v := .ref (q 5)) (C := RX5) (T := TX5) (N := 15) hx hb hts in_X5_reads_X5 hown hK.1 hP 0 rfl rfl 12 (by decide) (hts _ lk_X5_reads_3) (fun _ h9 => h9) rfl dX5_reads_107 ?_
            refine lv_iload_n hx hb dX5_reads_110 rfl (lv_at hl 3 rfl) ?_
            refine lv_iload_n hx hb dX5_reads_111 rfl (lv_at hl 1 rfl) ?_
            refine iast_n hx hb hK hP hD hS 5 rfl k rfl (by omega) (by decide) dX5_reads_112 (fun H locs hP hD hS => ?_)
            have hP : va_P G vwCl ((mdT cI q (uMnums (uMfail (uMat z (kMat z + (rd4 z))) (nI (kMat z + (rd4 z)))) (upd (kMnums z) k (rdV z (rd4 z)))))) H := hP
            have hD : va_D A ((mdT cI q (uMnums (uMfail (uMat z (kMat z + (rd4 z))) (nI (kMat z + (rd4 z)))) (upd (kMnums z) k (rdV z (rd4 z)))))) := hD
            exact m_vret () hx hb hr hlocks trivial (by rw [show (gRead z k) = (uMnums (uMfail (uMat z (kMat z + (rd4 z))) (nI (kMat z + (rd4 z)))) (upd (kMnums z) k (rdV z (rd4 z)))) from by (show gRead z k = _); unfold gRead; simp only [eq_false c_2, eq_false (Ne.symm c_2), eq_true c_3, if_true, if_false, and_true, true_and, and_false, false_and, or_true, true_or, or_false, false_or, not_true_eq_false, not_false_eq_true, ne_eq, ite_true, ite_false]]; exact hP) (by rw [show (gRead z k) = (uMnums (uMfail (uMat z (kMat z + (rd4 z))) (nI (kMat z + (rd4 z)))) (upd (kMnums z) k (rdV z (rd4 z)))) from by (show gRead z k = _); unfold gRead; simp only [eq_false c_2, eq_false (Ne.symm c_2), eq_true c_3, if_true, if_false, and_true, true_and, and_false, false_and, or_true, true_or, or_false, false_or, not_true_eq_false, not_false_eq_true, ne_eq, ite_true, ite_false]]; exact hD) hS dX5_reads_113
      · skip
        have c_1 := bI_n0.mp c_1
        refine lv_aload_n hx hb dX5_reads_21 rfl (lv_at hl 2 rfl) ?_
        refine va_get (D := G) (ci := 5) (v := .int (nI (kMat z + i7))) (C := RX5) (T := TX5) (N := 15) hx hb hts in_X5_reads_X5 hown hK.1 hP 0 rfl rfl 10 (by decide) (hts _ lk_X5_reads_1) (fun _ h9 => h9) rfl dX5_reads_22 ?_
        refine lv_iload_n hx hb dX5_reads_25 rfl (lv_at hl 0 rfl) ?_
        refine lv_iconst (v := 4) hx hb dX5_reads_26 (by decide) ?_
        refine lv_iadd hx hb dX5_reads_27 ?_
        refine lv_icmp_ge (tgt := 69) hx hb dX5_reads_28 (by decide) (fun c_4 => ?_) (fun c_4 => ?_)
        · skip
          have e7 : i7 = 4 := by
            have h9 : nI (kMat z + 4) ≤ nI (kMat z + i7) := by
              rw [← nI_add]
              exact c_4
            have h8 := (nI_leI (a := kMat z + 4) (b := kMat z + i7) (by omega) (by omega)).mp h9
            omega
          have q9 : rd4 z = i7 := (by rw [hinv, e7]; rfl)
          subst q9
          refine lv_aload_n hx hb dX5_reads_69 rfl (lv_at hl 2 rfl) ?_
          refine lv_aload_n hx hb dX5_reads_70 rfl (lv_at hl 2 rfl) ?_
          refine va_get (D := G) (ci := 5) (v := .int (nI (kMat z + (rd4 z)))) (C := RX5) (T := TX5) (N := 15) hx hb hts in_X5_reads_X5 hown hK.1 hP 0 rfl rfl 10 (by decide) (hts _ lk_X5_reads_1) (fun _ h9 => h9) rfl dX5_reads_71 ?_
          refine lv_iload_n hx hb dX5_reads_74 rfl (lv_at hl 0 rfl) ?_
          refine lv_icmp_eq (tgt := 92) hx hb dX5_reads_75 (by decide) (fun c_5 => ?_) (fun c_5 => ?_)
          · skip
            refine lv_aload_n hx hb dX5_reads_92 rfl (lv_at hl 2 rfl) ?_
            refine va_get (D := G) (ci := 5) (v := .int (nI (kMat z + (rd4 z)))) (C := RX5) (T := TX5) (N := 15) hx hb hts in_X5_reads_X5 hown hK.1 hP 0 rfl rfl 10 (by decide) (hts _ lk_X5_reads_1) (fun _ h9 => h9) rfl dX5_reads_93 ?_
            refine lv_goto (tgt := 103) hx hb dX5_reads_96 (by decide) ?_
            refine va_put (D := G) (ci := 5) (v := .int (nI (kMat z + (rd4 z)))) (ty := .int) (C := RX5) (T := TX5) (N := 15) hx hb hts in_X5_reads_X5 tyX5 tyX5_ok nmX5 hown hK.1 hP hD hS 0 rfl rfl 11 (by decide) (hts _ lk_X5_reads_2) (fun _ h9 => h9) rfl (by decide +kernel) rfl rfl (Nat.le_of_ble_eq_true rfl) dX5_reads_103 (fun H locs hP hD hS => ?_)
            have hP : va_P G vwCl ((mdT cI q (uMfail (uMat z (kMat z + (rd4 z))) (nI (kMat z + (rd4 z)))))) H := hP
            have hD : va_D A ((mdT cI q (uMfail (uMat z (kMat z + (rd4 z))) (nI (kMat z + (rd4 z)))))) := hD
            refine lv_aload_n hx hb dX5_reads_106 rfl (lv_at hl 2 rfl) ?_
            refine va_get (D := G) (ci := 5) (v := .ref (q 5)) (C := RX5) (T := TX5) (N := 15) hx hb hts in_X5_reads_X5 hown hK.1 hP 0 rfl rfl 12 (by decide) (hts _ lk_X5_reads_3) (fun _ h9 => h9) rfl dX5_reads_107 ?_
            refine lv_iload_n hx hb dX5_reads_110 rfl (lv_at hl 3 rfl) ?_
            refine lv_iload_n hx hb dX5_reads_111 rfl (lv_at hl 1 rfl) ?_
            refine iast_n hx hb hK hP hD hS 5 rfl k rfl (by omega) (by decide) dX5_reads_112 (fun H locs hP hD hS => ?_)
            have hP : va_P G vwCl ((mdT cI q (uMnums (uMfail (uMat z (kMat z + (rd4 z))) (nI (kMat z + (rd4 z)))) (upd (kMnums z) k (rdV z (rd4 z)))))) H := hP
            have hD : va_D A ((mdT cI q (uMnums (uMfail (uMat z (kMat z + (rd4 z))) (nI (kMat z + (rd4 z)))) (upd (kMnums z) k (rdV z (rd4 z)))))) := hD
            exact m_vret () hx hb hr hlocks trivial (by rw [show (gRead z k) = (uMnums (uMfail (uMat z (kMat z + (rd4 z))) (nI (kMat z + (rd4 z)))) (upd (kMnums z) k (rdV z (rd4 z)))) from by (show gRead z k = _); unfold gRead; simp only [eq_true c_5, eq_true (Eq.symm c_5), if_true, if_false, and_true, true_and, and_false, false_and, or_true, true_or, or_false, false_or, not_true_eq_false, not_false_eq_true, ne_eq, ite_true, ite_false]]; exact hP) (by rw [show (gRead z k) = (uMnums (uMfail (uMat z (kMat z + (rd4 z))) (nI (kMat z + (rd4 z)))) (upd (kMnums z) k (rdV z (rd4 z)))) from by (show gRead z k = _); unfold gRead; simp only [eq_true c_5, eq_true (Eq.symm c_5), if_true, if_false, and_true, true_and, and_false, false_and, or_true, true_or, or_false, false_or, not_true_eq_false, not_false_eq_true, ne_eq, ite_true, ite_false]]; exact hD) hS dX5_reads_113
          · skip
            refine lv_aload_n hx hb dX5_reads_78 rfl (lv_at hl 2 rfl) ?_
            refine pcV (rest := [.ref (q 0)]) ⟨hx, hb, hml, hown, hts⟩ (c_X5_look l G cI cQ q (uMat z (kMat z + (rd4 z))) (mT_at hA hT)) (cwV 0 hts gX5_reads_X5_look rfl rfl rfl cd_X5_look ⟨Nat.le_of_ble_eq_true rfl, Nat.le_of_ble_eq_true rfl⟩) hK hP [0, 1, 2, 3, 4, 5, 6] rfl 0 rfl rfl rfl rfl hl.1 rfl (Nat.le_of_ble_eq_true rfl) dX5_reads_79 ⟨Nat.zero_le _, Nat.zero_le _⟩ ?_
            refine lv_bipush (v := 48) hx hb dX5_reads_82 (by decide) ?_
            refine lv_bipush (v := 57) hx hb dX5_reads_84 (by decide) ?_
            refine pcS (rest := [.ref (q 0)]) ⟨hx, hb, hml, hown, hts⟩ (c_X5_in l G cI cQ (rLook (uMat z (kMat z + (rd4 z)))) 48 57) (cwS 3 hts gX5_reads_X5_in rfl rfl rfl cd_X5_in ⟨Nat.le_of_ble_eq_true rfl, Nat.le_of_ble_eq_true rfl⟩) hK hP [] rfl rfl hl.1 rfl (Nat.le_of_ble_eq_true rfl) dX5_reads_86 ⟨Nat.zero_le _, Nat.zero_le _⟩ ?_
            refine lv_if_eq (tgt := 99) hx hb dX5_reads_89 (by decide) (fun c_6 => ?_) (fun c_6 => ?_)
            · skip
              have c_6 := bI_0.mp c_6
              refine lv_aload_n hx hb dX5_reads_99 rfl (lv_at hl 2 rfl) ?_
              refine va_get (D := G) (ci := 5) (v := .int (kMfail z)) (C := RX5) (T := TX5) (N := 15) hx hb hts in_X5_reads_X5 hown hK.1 hP 0 rfl rfl 11 (by decide) (hts _ lk_X5_reads_2) (fun _ h9 => h9) rfl dX5_reads_100 ?_
              refine va_put (D := G) (ci := 5) (v := .int (kMfail z)) (ty := .int) (C := RX5) (T := TX5) (N := 15) hx hb hts in_X5_reads_X5 tyX5 tyX5_ok nmX5 hown hK.1 hP hD hS 0 rfl rfl 11 (by decide) (hts _ lk_X5_reads_2) (fun _ h9 => h9) rfl (by decide +kernel) rfl rfl (Nat.le_of_ble_eq_true rfl) dX5_reads_103 (fun H locs hP hD hS => ?_)
              have hP : va_P G vwCl ((mdT cI q (uMfail (uMat z (kMat z + (rd4 z))) (kMfail z)))) H := hP
              have hD : va_D A ((mdT cI q (uMfail (uMat z (kMat z + (rd4 z))) (kMfail z)))) := hD
              refine lv_aload_n hx hb dX5_reads_106 rfl (lv_at hl 2 rfl) ?_
              refine va_get (D := G) (ci := 5) (v := .ref (q 5)) (C := RX5) (T := TX5) (N := 15) hx hb hts in_X5_reads_X5 hown hK.1 hP 0 rfl rfl 12 (by decide) (hts _ lk_X5_reads_3) (fun _ h9 => h9) rfl dX5_reads_107 ?_
              refine lv_iload_n hx hb dX5_reads_110 rfl (lv_at hl 3 rfl) ?_
              refine lv_iload_n hx hb dX5_reads_111 rfl (lv_at hl 1 rfl) ?_
              refine iast_n hx hb hK hP hD hS 5 rfl k rfl (by omega) (by decide) dX5_reads_112 (fun H locs hP hD hS => ?_)
              have hP : va_P G vwCl ((mdT cI q (uMnums (uMfail (uMat z (kMat z + (rd4 z))) (kMfail z)) (upd (kMnums z) k (rdV z (rd4 z)))))) H := hP
              have hD : va_D A ((mdT cI q (uMnums (uMfail (uMat z (kMat z + (rd4 z))) (kMfail z)) (upd (kMnums z) k (rdV z (rd4 z)))))) := hD
              exact m_vret () hx hb hr hlocks trivial (by rw [show (gRead z k) = (uMnums (uMfail (uMat z (kMat z + (rd4 z))) (kMfail z)) (upd (kMnums z) k (rdV z (rd4 z)))) from by (show gRead z k = _); unfold gRead; simp only [eq_false c_5, eq_false (Ne.symm c_5), eq_false c_6, if_true, if_false, and_true, true_and, and_false, false_and, or_true, true_or, or_false, false_or, not_true_eq_false, not_false_eq_true, ne_eq, ite_true, ite_false]]; exact hP) (by rw [show (gRead z k) = (uMnums (uMfail (uMat z (kMat z + (rd4 z))) (kMfail z)) (upd (kMnums z) k (rdV z (rd4 z)))) from by (show gRead z k = _); unfold gRead; simp only [eq_false c_5, eq_false (Ne.symm c_5), eq_false c_6, if_true, if_false, and_true, true_and, and_false, false_and, or_true, true_or, or_false, false_or, not_true_eq_false, not_false_eq_true, ne_eq, ite_true, ite_false]]; exact hD) hS dX5_reads_113
            · skip
              have c_6 := bI_n0.mp c_6
              refine lv_aload_n hx hb dX5_reads_92 rfl (lv_at hl 2 rfl) ?_
              refine va_get (D := G) (ci := 5) (v := .int (nI (kMat z + (rd4 z)))) (C := RX5) (T := TX5) (N := 15) hx hb hts in_X5_reads_X5 hown hK.1 hP 0 rfl rfl 10 (by decide) (hts _ lk_X5_reads_1) (fun _ h9 => h9) rfl dX5_reads_93 ?_
              refine lv_goto (tgt := 103) hx hb dX5_reads_96 (by decide) ?_
              refine va_put (D := G) (ci := 5) (v := .int (nI (kMat z + (rd4 z)))) (ty := .int) (C := RX5) (T := TX5) (N := 15) hx hb hts in_X5_reads_X5 tyX5 tyX5_ok nmX5 hown hK.1 hP hD hS 0 rfl rfl 11 (by decide) (hts _ lk_X5_reads_2) (fun _ h9 => h9) rfl (by decide +kernel) rfl rfl (Nat.le_of_ble_eq_true rfl) dX5_reads_103 (fun H locs hP hD hS => ?_)
              have hP : va_P G vwCl ((mdT cI q (uMfail (uMat z (kMat z + (rd4 z))) (nI (kMat z + (rd4 z)))))) H := hP
              have hD : va_D A ((mdT cI q (uMfail (uMat z (kMat z + (rd4 z))) (nI (kMat z + (rd4 z)))))) := hD
              refine lv_aload_n hx hb dX5_reads_106 rfl (lv_at hl 2 rfl) ?_
              refine va_get (D := G) (ci := 5) (v := .ref (q 5)) (C := RX5) (T := TX5) (N := 15) hx hb hts in_X5_reads_X5 hown hK.1 hP 0 rfl rfl 12 (by decide) (hts _ lk_X5_reads_3) (fun _ h9 => h9) rfl dX5_reads_107 ?_
              refine lv_iload_n hx hb dX5_reads_110 rfl (lv_at hl 3 rfl) ?_
              refine lv_iload_n hx hb dX5_reads_111 rfl (lv_at hl 1 rfl) ?_
              refine iast_n hx hb hK hP hD hS 5 rfl k rfl (by omega) (by decide) dX5_reads_112 (fun H locs hP hD hS => ?_)
              have hP : va_P G vwCl ((mdT cI q (uMnums (uMfail (uMat z (kMat z + (rd4 z))) (nI (kMat z + (rd4 z)))) (upd (kMnums z) k (rdV z (rd4 z)))))) H := hP
              have hD : va_D A ((mdT cI q (uMnums (uMfail (uMat z (kMat z + (rd4 z))) (nI (kMat z + (rd4 z)))) (upd (kMnums z) k (rdV z (rd4 z)))))) := hD
              exact m_vret () hx hb hr hlocks trivial (by rw [show (gRead z k) = (uMnums (uMfail (uMat z (kMat z + (rd4 z))) (nI (kMat z + (rd4 z)))) (upd (kMnums z) k (rdV z (rd4 z)))) from by (show gRead z k = _); unfold gRead; simp only [eq_false c_5, eq_false (Ne.symm c_5), eq_true c_6, if_true, if_false, and_true, true_and, and_false, false_and, or_true, true_or, or_false, false_or, not_true_eq_false, not_false_eq_true, ne_eq, ite_true, ite_false]]; exact hP) (by rw [show (gRead z k) = (uMnums (uMfail (uMat z (kMat z + (rd4 z))) (nI (kMat z + (rd4 z)))) (upd (kMnums z) k (rdV z (rd4 z)))) from by (show gRead z k = _); unfold gRead; simp only [eq_false c_5, eq_false (Ne.symm c_5), eq_true c_6, if_true, if_false, and_true, true_and, and_false, false_and, or_true, true_or, or_false, false_or, not_true_eq_false, not_false_eq_true, ne_eq, ite_true, ite_false]]; exact hD) hS dX5_reads_113
        · skip
          have hlt7 : i7 < 4 := by rcases Nat.lt_or_ge i7 4 with h9 | h9; exact h9; exact absurd (by rw [show (4 : Int32) = nI 4 from rfl, nI_add]; exact (nI_leI (a := kMat z + 4) (b := kMat z + i7) (by omega) (by omega)).mpr (by omega)) c_4
          refine lv_aload_n hx hb dX5_reads_31 rfl (lv_at hl 2 rfl) ?_
          refine va_get (D := G) (ci := 5) (v := .int (nI (kMat z + i7))) (C := RX5) (T := TX5) (N := 15) hx hb hts in_X5_reads_X5 hown hK.1 hP 0 rfl rfl 10 (by decide) (hts _ lk_X5_reads_1) (fun _ h9 => h9) rfl dX5_reads_32 ?_
          refine lv_iload_n hx hb dX5_reads_35 rfl (lv_at hl 0 rfl) ?_
          refine lv_icmp_le (tgt := 43) hx hb dX5_reads_36 (by decide) (fun c_7 => ?_) (fun c_7 => ?_)
          · skip
            have e8 : i7 = 0 := by have h9 := (nI_leI (a := kMat z + i7) (b := kMat z) (by omega) (by omega)).mp c_7; omega
            refine lv_bipush (v := 10) hx hb dX5_reads_43 (by decide) ?_
            refine lv_iload_n hx hb dX5_reads_45 rfl (lv_at hl 1 rfl) ?_
            refine lv_imul hx hb dX5_reads_46 ?_
            refine lv_aload_n hx hb dX5_reads_47 rfl (lv_at hl 2 rfl) ?_
            refine pcV (rest := [.int (10 * (rdV z i7))]) ⟨hx, hb, hml, hown, hts⟩ (c_X5_look l G cI cQ q (uMat z (kMat z + i7)) (mT_at hA hT)) (cwV 0 hts gX5_reads_X5_look rfl rfl rfl cd_X5_look ⟨Nat.le_of_ble_eq_true rfl, Nat.le_of_ble_eq_true rfl⟩) hK hP [0, 1, 2, 3, 4, 5, 6] rfl 0 rfl rfl rfl rfl hl.1 rfl (Nat.le_of_ble_eq_true rfl) dX5_reads_48 ⟨Nat.zero_le _, Nat.zero_le _⟩ ?_
            refine lv_iadd hx hb dX5_reads_51 ?_
            refine lv_bipush (v := 48) hx hb dX5_reads_52 (by decide) ?_
            refine lv_isub hx hb dX5_reads_54 ?_
            refine lv_istore_n (lv' := [(3, .int (((10 * (rdV z i7)) + (rLook (uMat z (kMat z + i7)))) - 48)), (2, .int (nI (kMat z))), (0, .ref (q 0)), (1, .int (nI k))]) hx hb dX5_reads_55 rfl hl (by decide) rfl (fun ls hl => ?_)
            refine lv_aload_n hx hb dX5_reads_56 rfl (lv_at hl 2 rfl) ?_
            refine lv_dup hx hb dX5_reads_57 rfl ?_
            refine va_get (D := G) (ci := 5) (v := .int (nI (kMat z + i7))) (C := RX5) (T := TX5) (N := 15) hx hb hts in_X5_reads_X5 hown hK.1 hP 0 rfl rfl 10 (by decide) (hts _ lk_X5_reads_1) (fun _ h9 => h9) rfl dX5_reads_58 ?_
            refine lv_iconst (v := 1) hx hb dX5_reads_61 (by decide) ?_
            refine lv_iadd hx hb dX5_reads_62 ?_
            refine lv_cvt (y := (nI ((kMat z + i7) + 1))) (nI_1 _) ?_
            refine va_put (D := G) (ci := 5) (v := .int (nI ((kMat z + i7) + 1))) (ty := .int) (C := RX5) (T := TX5) (N := 15) hx hb hts in_X5_reads_X5 tyX5 tyX5_ok nmX5 hown hK.1 hP hD hS 0 rfl rfl 10 (by decide) (hts _ lk_X5_reads_1) (fun _ h9 => h9) rfl (by decide +kernel) rfl rfl (Nat.le_of_ble_eq_true rfl) dX5_reads_63 (fun H locs hP hD hS => ?_)
            have hP : va_P G vwCl ((mdT cI q (uMat z ((kMat z + i7) + 1)))) H := hP
            have hD : va_D A ((mdT cI q (uMat z ((kMat z + i7) + 1)))) := hD
            refine lv_goto (tgt := 7) hx hb dX5_reads_66 (by decide) ?_
            have e_8 : (rdV z (i7 + 1)) = (((10 * (rdV z i7)) + (rLook (uMat z (kMat z + i7)))) - 48) := by rfl
            have e_9 : (kMat z + (i7 + 1)) = ((kMat z + i7) + 1) := by rfl
            exact ih7 (i7 + 1) (by omega) (by omega) (by omega) (rd_go hlt7 ⟨c_1, (Or.inl e8)⟩ hinv) (by have h9 := (look_in (z := uMat z (kMat z + i7)) (mT_at hA hT) (pin_look c_1)).1; have h8 : kMat z + i7 < kMtyped z := h9; omega) _ _ (by rw [e_9]; exact hP) (by rw [e_9]; exact hD) hS ls (by rw [e_8]; exact lv_sub hl [1, 0, 2, 3] rfl)
          · skip
            have e8 : ¬ i7 = 0 := fun h9 => c_7 ((nI_leI (a := kMat z + i7) (b := kMat z) (by omega) (by omega)).mpr (by omega))
            refine lv_iload_n hx hb dX5_reads_39 rfl (lv_at hl 1 rfl) ?_
            refine lv_if_eq (tgt := 69) hx hb dX5_reads_40 (by decide) (fun c_10 => ?_) (fun c_10 => ?_)
            · skip
              have q9 : rd4 z = i7 := hinv.trans (rd_no (fun h => h.2.elim e8 (fun h9 => h9 c_10)) _)
              subst q9
              refine lv_aload_n hx hb dX5_reads_69 rfl (lv_at hl 2 rfl) ?_
              refine lv_aload_n hx hb dX5_reads_70 rfl (lv_at hl 2 rfl) ?_
              refine va_get (D := G) (ci := 5) (v := .int (nI (kMat z + (rd4 z)))) (C := RX5) (T := TX5) (N := 15) hx hb hts in_X5_reads_X5 hown hK.1 hP 0 rfl rfl 10 (by decide) (hts _ lk_X5_reads_1) (fun _ h9 => h9) rfl dX5_reads_71 ?_
              refine lv_iload_n hx hb dX5_reads_74 rfl (lv_at hl 0 rfl) ?_
              refine lv_icmp_eq (tgt := 92) hx hb dX5_reads_75 (by decide) (fun c_11 => ?_) (fun c_11 => ?_)
              · skip
                refine lv_aload_n hx hb dX5_reads_92 rfl (lv_at hl 2 rfl) ?_
                refine va_get (D := G) (ci := 5) (v := .int (nI (kMat z + (rd4 z)))) (C := RX5) (T := TX5) (N := 15) hx hb hts in_X5_reads_X5 hown hK.1 hP 0 rfl rfl 10 (by decide) (hts _ lk_X5_reads_1) (fun _ h9 => h9) rfl dX5_reads_93 ?_
                refine lv_goto (tgt := 103) hx hb dX5_reads_96 (by decide) ?_
                refine va_put (D := G) (ci := 5) (v := .int (nI (kMat z + (rd4 z)))) (ty := .int) (C := RX5) (T := TX5) (N := 15) hx hb hts in_X5_reads_X5 tyX5 tyX5_ok nmX5 hown hK.1 hP hD hS 0 rfl rfl 11 (by decide) (hts _ lk_X5_reads_2) (fun _ h9 => h9) rfl (by decide +kernel) rfl rfl (Nat.le_of_ble_eq_true rfl) dX5_reads_103 (fun H locs hP hD hS => ?_)
                have hP : va_P G vwCl ((mdT cI q (uMfail (uMat z (kMat z + (rd4 z))) (nI (kMat z + (rd4 z)))))) H := hP
                have hD : va_D A ((mdT cI q (uMfail (uMat z (kMat z + (rd4 z))) (nI (kMat z + (rd4 z)))))) := hD
                refine lv_aload_n hx hb dX5_reads_106 rfl (lv_at hl 2 rfl) ?_
                refine va_get (D := G) (ci := 5) (v := .ref (q 5)) (C := RX5) (T := TX5) (N := 15) hx hb hts in_X5_reads_X5 hown hK.1 hP 0 rfl rfl 12 (by decide) (hts _ lk_X5_reads_3) (fun _ h9 => h9) rfl dX5_reads_107 ?_
                refine lv_iload_n hx hb dX5_reads_110 rfl (lv_at hl 3 rfl) ?_
                refine lv_iload_n hx hb dX5_reads_111 rfl (lv_at hl 1 rfl) ?_
                refine iast_n hx hb hK hP hD hS 5 rfl k rfl (by omega) (by decide) dX5_reads_112 (fun H locs hP hD hS => ?_)
                have hP : va_P G vwCl ((mdT cI q (uMnums (uMfail (uMat z (kMat z + (rd4 z))) (nI (kMat z + (rd4 z)))) (upd (kMnums z) k (rdV z (rd4 z)))))) H := hP
                have hD : va_D A ((mdT cI q (uMnums (uMfail (uMat z (kMat z + (rd4 z))) (nI (kMat z + (rd4 z)))) (upd (kMnums z) k (rdV z (rd4 z)))))) := hD
                exact m_vret () hx hb hr hlocks trivial (by rw [show (gRead z k) = (uMnums (uMfail (uMat z (kMat z + (rd4 z))) (nI (kMat z + (rd4 z)))) (upd (kMnums z) k (rdV z (rd4 z)))) from by (show gRead z k = _); unfold gRead; simp only [eq_true c_11, eq_true (Eq.symm c_11), if_true, if_false, and_true, true_and, and_false, false_and, or_true, true_or, or_false, false_or, not_true_eq_false, not_false_eq_true, ne_eq, ite_true, ite_false]]; exact hP) (by rw [show (gRead z k) = (uMnums (uMfail (uMat z (kMat z + (rd4 z))) (nI (kMat z + (rd4 z)))) (upd (kMnums z) k (rdV z (rd4 z)))) from by (show gRead z k = _); unfold gRead; simp only [eq_true c_11, eq_true (Eq.symm c_11), if_true, if_false, and_true, true_and, and_false, false_and, or_true, true_or, or_false, false_or, not_true_eq_false, not_false_eq_true, ne_eq, ite_true, ite_false]]; exact hD) hS dX5_reads_113
              · skip
                refine lv_aload_n hx hb dX5_reads_78 rfl (lv_at hl 2 rfl) ?_
                refine pcV (rest := [.ref (q 0)]) ⟨hx, hb, hml, hown, hts⟩ (c_X5_look l G cI cQ q (uMat z (kMat z + (rd4 z))) (mT_at hA hT)) (cwV 0 hts gX5_reads_X5_look rfl rfl rfl cd_X5_look ⟨Nat.le_of_ble_eq_true rfl, Nat.le_of_ble_eq_true rfl⟩) hK hP [0, 1, 2, 3, 4, 5, 6] rfl 0 rfl rfl rfl rfl hl.1 rfl (Nat.le_of_ble_eq_true rfl) dX5_reads_79 ⟨Nat.zero_le _, Nat.zero_le _⟩ ?_
                refine lv_bipush (v := 48) hx hb dX5_reads_82 (by decide) ?_
                refine lv_bipush (v := 57) hx hb dX5_reads_84 (by decide) ?_
                refine pcS (rest := [.ref (q 0)]) ⟨hx, hb, hml, hown, hts⟩ (c_X5_in l G cI cQ (rLook (uMat z (kMat z + (rd4 z)))) 48 57) (cwS 3 hts gX5_reads_X5_in rfl rfl rfl cd_X5_in ⟨Nat.le_of_ble_eq_true rfl, Nat.le_of_ble_eq_true rfl⟩) hK hP [] rfl rfl hl.1 rfl (Nat.le_of_ble_eq_true rfl) dX5_reads_86 ⟨Nat.zero_le _, Nat.zero_le _⟩ ?_
                refine lv_if_eq (tgt := 99) hx hb dX5_reads_89 (by decide) (fun c_12 => ?_) (fun c_12 => ?_)
                · skip
                  have c_12 := bI_0.mp c_12
                  refine lv_aload_n hx hb dX5_reads_99 rfl (lv_at hl 2 rfl) ?_
                  refine va_get (D := G) (ci := 5) (v := .int (kMfail z)) (C := RX5) (T := TX5) (N := 15) hx hb hts in_X5_reads_X5 hown hK.1 hP 0 rfl rfl 11 (by decide) (hts _ lk_X5_reads_2) (fun _ h9 => h9) rfl dX5_reads_100 ?_
                  refine va_put (D := G) (ci := 5) (v := .int (kMfail z)) (ty := .int) (C := RX5) (T := TX5) (N := 15) hx hb hts in_X5_reads_X5 tyX5 tyX5_ok nmX5 hown hK.1 hP hD hS 0 rfl rfl 11 (by decide) (hts _ lk_X5_reads_2) (fun _ h9 => h9) rfl (by decide +kernel) rfl rfl (Nat.le_of_ble_eq_true rfl) dX5_reads_103 (fun H locs hP hD hS => ?_)
                  have hP : va_P G vwCl ((mdT cI q (uMfail (uMat z (kMat z + (rd4 z))) (kMfail z)))) H := hP
                  have hD : va_D A ((mdT cI q (uMfail (uMat z (kMat z + (rd4 z))) (kMfail z)))) := hD
                  refine lv_aload_n hx hb dX5_reads_106 rfl (lv_at hl 2 rfl) ?_
                  refine va_get (D := G) (ci := 5) (v := .ref (q 5)) (C := RX5) (T := TX5) (N := 15) hx hb hts in_X5_reads_X5 hown hK.1 hP 0 rfl rfl 12 (by decide) (hts _ lk_X5_reads_3) (fun _ h9 => h9) rfl dX5_reads_107 ?_
                  refine lv_iload_n hx hb dX5_reads_110 rfl (lv_at hl 3 rfl) ?_
                  refine lv_iload_n hx hb dX5_reads_111 rfl (lv_at hl 1 rfl) ?_
                  refine iast_n hx hb hK hP hD hS 5 rfl k rfl (by omega) (by decide) dX5_reads_112 (fun H locs hP hD hS => ?_)
                  have hP : va_P G vwCl ((mdT cI q (uMnums (uMfail (uMat z (kMat z + (rd4 z))) (kMfail z)) (upd (kMnums z) k (rdV z (rd4 z)))))) H := hP
                  have hD : va_D A ((mdT cI q (uMnums (uMfail (uMat z (kMat z + (rd4 z))) (kMfail z)) (upd (kMnums z) k (rdV z (rd4 z)))))) := hD
                  exact m_vret () hx hb hr hlocks trivial (by rw [show (gRead z k) = (uMnums (uMfail (uMat z (kMat z + (rd4 z))) (kMfail z)) (upd (kMnums z) k (rdV z (rd4 z)))) from by (show gRead z k = _); unfold gRead; simp only [eq_false c_11, eq_false (Ne.symm c_11), eq_false c_12, if_true, if_false, and_true, true_and, and_false, false_and, or_true, true_or, or_false, false_or, not_true_eq_false, not_false_eq_true, ne_eq, ite_true, ite_false]]; exact hP) (by rw [show (gRead z k) = (uMnums (uMfail (uMat z (kMat z + (rd4 z))) (kMfail z)) (upd (kMnums z) k (rdV z (rd4 z)))) from by (show gRead z k = _); unfold gRead; simp only [eq_false c_11, eq_false (Ne.symm c_11), eq_false c_12, if_true, if_false, and_true, true_and, and_false, false_and, or_true, true_or, or_false, false_or, not_true_eq_false, not_false_eq_true, ne_eq, ite_true, ite_false]]; exact hD) hS dX5_reads_113
                · skip
                  have c_12 := bI_n0.mp c_12
                  refine lv_aload_n hx hb dX5_reads_92 rfl (lv_at hl 2 rfl) ?_
                  refine va_get (D := G) (ci := 5) (v := .int (nI (kMat z + (rd4 z)))) (C := RX5) (T := TX5) (N := 15) hx hb hts in_X5_reads_X5 hown hK.1 hP 0 rfl rfl 10 (by decide) (hts _ lk_X5_reads_1) (fun _ h9 => h9) rfl dX5_reads_93 ?_
                  refine lv_goto (tgt := 103) hx hb dX5_reads_96 (by decide) ?_
                  refine va_put (D := G) (ci := 5) (v := .int (nI (kMat z + (rd4 z)))) (ty := .int) (C := RX5) (T := TX5) (N := 15) hx hb hts in_X5_reads_X5 tyX5 tyX5_ok nmX5 hown hK.1 hP hD hS 0 rfl rfl 11 (by decide) (hts _ lk_X5_reads_2) (fun _ h9 => h9) rfl (by decide +kernel) rfl rfl (Nat.le_of_ble_eq_true rfl) dX5_reads_103 (fun H locs hP hD hS => ?_)
                  have hP : va_P G vwCl ((mdT cI q (uMfail (uMat z (kMat z + (rd4 z))) (nI (kMat z + (rd4 z)))))) H := hP
                  have hD : va_D A ((mdT cI q (uMfail (uMat z (kMat z + (rd4 z))) (nI (kMat z + (rd4 z)))))) := hD
                  refine lv_aload_n hx hb dX5_reads_106 rfl (lv_at hl 2 rfl) ?_
                  refine va_get (D := G) (ci := 5) (v := .ref (q 5)) (C := RX5) (T := TX5) (N := 15) hx hb hts in_X5_reads_X5 hown hK.1 hP 0 rfl rfl 12 (by decide) (hts _ lk_X5_reads_3) (fun _ h9 => h9) rfl dX5_reads_107 ?_
                  refine lv_iload_n hx hb dX5_reads_110 rfl (lv_at hl 3 rfl) ?_
                  refine lv_iload_n hx hb dX5_reads_111 rfl (lv_at hl 1 rfl) ?_
                  refine iast_n hx hb hK hP hD hS 5 rfl k rfl (by omega) (by decide) dX5_reads_112 (fun H locs hP hD hS => ?_)
                  have hP : va_P G vwCl ((mdT cI q (uMnums (uMfail (uMat z (kMat z + (rd4 z))) (nI (kMat z + (rd4 z)))) (upd (kMnums z) k (rdV z (rd4 z)))))) H := hP
                  have hD : va_D A ((mdT cI q (uMnums (uMfail (uMat z (kMat z + (rd4 z))) (nI (kMat z + (rd4 z)))) (upd (kMnums z) k (rdV z (rd4 z)))))) := hD
                  exact m_vret () hx hb hr hlocks trivial (by rw [show (gRead z k) = (uMnums (uMfail (uMat z (kMat z + (rd4 z))) (nI (kMat z + (rd4 z)))) (upd (kMnums z) k (rdV z (rd4 z)))) from by (show gRead z k = _); unfold gRead; simp only [eq_false c_11, eq_false (Ne.symm c_11), eq_true c_12, if_true, if_false, and_true, true_and, and_false, false_and, or_true, true_or, or_false, false_or, not_true_eq_false, not_false_eq_true, ne_eq, ite_true, ite_false]]; exact hP) (by rw [show (gRead z k) = (uMnums (uMfail (uMat z (kMat z + (rd4 z))) (nI (kMat z + (rd4 z)))) (upd (kMnums z) k (rdV z (rd4 z)))) from by (show gRead z k = _); unfold gRead; simp only [eq_false c_11, eq_false (Ne.symm c_11), eq_true c_12, if_true, if_false, and_true, true_and, and_false, false_and, or_true, true_or, or_false, false_or, not_true_eq_false, not_false_eq_true, ne_eq, ite_true, ite_false]]; exact hD) hS dX5_reads_113
            · skip
              refine lv_bipush (v := 10) hx hb dX5_reads_43 (by decide) ?_
              refine lv_iload_n hx hb dX5_reads_45 rfl (lv_at hl 1 rfl) ?_
              refine lv_imul hx hb dX5_reads_46 ?_
              refine lv_aload_n hx hb dX5_reads_47 rfl (lv_at hl 2 rfl) ?_
              refine pcV (rest := [.int (10 * (rdV z i7))]) ⟨hx, hb, hml, hown, hts⟩ (c_X5_look l G cI cQ q (uMat z (kMat z + i7)) (mT_at hA hT)) (cwV 0 hts gX5_reads_X5_look rfl rfl rfl cd_X5_look ⟨Nat.le_of_ble_eq_true rfl, Nat.le_of_ble_eq_true rfl⟩) hK hP [0, 1, 2, 3, 4, 5, 6] rfl 0 rfl rfl rfl rfl hl.1 rfl (Nat.le_of_ble_eq_true rfl) dX5_reads_48 ⟨Nat.zero_le _, Nat.zero_le _⟩ ?_
              refine lv_iadd hx hb dX5_reads_51 ?_
              refine lv_bipush (v := 48) hx hb dX5_reads_52 (by decide) ?_
              refine lv_isub hx hb dX5_reads_54 ?_
              refine lv_istore_n (lv' := [(3, .int (((10 * (rdV z i7)) + (rLook (uMat z (kMat z + i7)))) - 48)), (2, .int (nI (kMat z))), (0, .ref (q 0)), (1, .int (nI k))]) hx hb dX5_reads_55 rfl hl (by decide) rfl (fun ls hl => ?_)
              refine lv_aload_n hx hb dX5_reads_56 rfl (lv_at hl 2 rfl) ?_
              refine lv_dup hx hb dX5_reads_57 rfl ?_
              refine va_get (D := G) (ci := 5) (v := .int (nI (kMat z + i7))) (C := RX5) (T := TX5) (N := 15) hx hb hts in_X5_reads_X5 hown hK.1 hP 0 rfl rfl 10 (by decide) (hts _ lk_X5_reads_1) (fun _ h9 => h9) rfl dX5_reads_58 ?_
              refine lv_iconst (v := 1) hx hb dX5_reads_61 (by decide) ?_
              refine lv_iadd hx hb dX5_reads_62 ?_
              refine lv_cvt (y := (nI ((kMat z + i7) + 1))) (nI_1 _) ?_
              refine va_put (D := G) (ci := 5) (v := .int (nI ((kMat z + i7) + 1))) (ty := .int) (C := RX5) (T := TX5) (N := 15) hx hb hts in_X5_reads_X5 tyX5 tyX5_ok nmX5 hown hK.1 hP hD hS 0 rfl rfl 10 (by decide) (hts _ lk_X5_reads_1) (fun _ h9 => h9) rfl (by decide +kernel) rfl rfl (Nat.le_of_ble_eq_true rfl) dX5_reads_63 (fun H locs hP hD hS => ?_)
              have hP : va_P G vwCl ((mdT cI q (uMat z ((kMat z + i7) + 1)))) H := hP
              have hD : va_D A ((mdT cI q (uMat z ((kMat z + i7) + 1)))) := hD
              refine lv_goto (tgt := 7) hx hb dX5_reads_66 (by decide) ?_
              have e_13 : (rdV z (i7 + 1)) = (((10 * (rdV z i7)) + (rLook (uMat z (kMat z + i7)))) - 48) := by rfl
              have e_14 : (kMat z + (i7 + 1)) = ((kMat z + i7) + 1) := by rfl
              exact ih7 (i7 + 1) (by omega) (by omega) (by omega) (rd_go hlt7 ⟨c_1, (Or.inr c_10)⟩ hinv) (by have h9 := (look_in (z := uMat z (kMat z + i7)) (mT_at hA hT) (pin_look c_1)).1; have h8 : kMat z + i7 < kMtyped z := h9; omega) _ _ (by rw [e_14]; exact hP) (by rw [e_14]; exact hD) hS ls (by rw [e_13]; exact lv_sub hl [1, 0, 2, 3] rfl)
  have e_15 : (rdV z 0) = 0 := by rfl
  have e_16 : (kMat z + 0) = (kMat z) := by rfl
  exact L7 (4 + 1) 0 (by omega) (by omega) (by omega) (by rfl) (by have := hT.1; omega) _ _ (by rw [e_16]; exact hP) (by rw [e_16]; exact hD) hS ls (by rw [e_15]; exact lv_sub hl [1, 0, 2, 3] rfl)
theorem cd_X5_reads : yX5_reads.cls = RX5 ∧ yX5_reads.cls ≠ "java/lang/invoke/MethodHandle" ∧ yX5_reads.cls ≠ "java/lang/invoke/VarHandle" ∧ (parseMethodDescriptor yX5_reads.desc).map (fun d => d.parameters.length) = some 1 := by decide +kernel
-- X5_does
theorem lk_X5_does_1 : Cond.fieldLink RX5 22 "EvenLoadsModel" "numbers" "[I" ∈ wsX5_does := List.mem_of_getElem? (i := 1) (by decide +kernel)
theorem in_X5_does_X5 : ∀ w ∈ wsX50, w ∈ wsX5_does := by decide +kernel
set_option maxHeartbeats 4000000 in
set_option maxRecDepth 100000 in
theorem c_X5_does (l : Launch) (G : va_G) (cI cQ : ClassId) (q : Nat → Nat) (z : MS) (nv nj : Nat) (p0 : Int32) (hV : mV (kMs z) nv nj) (sz0 : Nat) : Met l yX5_does wsX5_does ({ frames := 9, cells := 0, slots := 0, locals := 192 } : Room) (mPc G cI cQ [.ref (q 0), .int p0] ((mdT cI q z)) sz0) (va_Qi (fun (r : Int32) (_ : Unit) => r = (gDoes z nv nj p0).1) (mB G (va_A ((mdT cI q z)) sz0) (fun _ => (mdT cI q (gDoes z nv nj p0).2))) (va_A ((mdT cI q z)) sz0)) 0 0 (va_A ((mdT cI q z)) sz0) := by
  refine mm_of (cc := cX5_does) (maxL := 5) (ret := (some .int)) (own := RX5) (by decide) rfl rfl (Nat.le_of_ble_eq_true rfl) rfl ?_
  intro p e s m below meth cd ls A hx hb hr hts hown hlocks hml hA hK hP hD hS hl
  have hm := hV.1
  refine lv_aload_n hx hb dX5_does_0 rfl (lv_at hl 0 rfl) ?_
  refine va_get (D := G) (ci := 5) (v := .ref (q 5)) (C := RX5) (T := TX5) (N := 15) hx hb hts in_X5_does_X5 hown hK.1 hP 0 rfl rfl 12 (by decide) (hts _ lk_X5_does_1) (fun _ h9 => h9) rfl dX5_does_1 ?_
  refine lv_iconst (v := 0) hx hb dX5_does_4 (by decide) ?_
  refine iald_n hx hb hK hP 5 rfl 0 rfl (by decide) (by decide) dX5_does_5 ?_
  refine lv_istore_n (lv' := [(2, .int ((kMnums z) 0)), (0, .ref (q 0)), (1, .int p0)]) hx hb dX5_does_6 rfl hl (by decide) rfl (fun ls hl => ?_)
  refine lv_aload_n hx hb dX5_does_7 rfl (lv_at hl 1 rfl) ?_
  refine va_get (D := G) (ci := 5) (v := .ref (q 5)) (C := RX5) (T := TX5) (N := 15) hx hb hts in_X5_does_X5 hown hK.1 hP 0 rfl rfl 12 (by decide) (hts _ lk_X5_does_1) (fun _ h9 => h9) rfl dX5_does_8 ?_
  refine lv_iconst (v := 1) hx hb dX5_does_11 (by decide) ?_
  refine iald_n hx hb hK hP 5 rfl 1 rfl (by decide) (by decide) dX5_does_12 ?_
  refine lv_istore_n (lv' := [(3, .int ((kMnums z) 1)), (2, .int ((kMnums z) 0)), (0, .ref (q 0)), (1, .int p0)]) hx hb dX5_does_13 rfl hl (by decide) rfl (fun ls hl => ?_)
  refine lv_aload_n hx hb dX5_does_14 rfl (lv_at hl 2 rfl) ?_
  refine va_get (D := G) (ci := 5) (v := .ref (q 5)) (C := RX5) (T := TX5) (N := 15) hx hb hts in_X5_does_X5 hown hK.1 hP 0 rfl rfl 12 (by decide) (hts _ lk_X5_does_1) (fun _ h9 => h9) rfl dX5_does_15 ?_
  refine lv_iconst (v := 2) hx hb dX5_does_18 (by decide) ?_
  refine iald_n hx hb hK hP 5 rfl 2 rfl (by decide) (by decide) dX5_does_19 ?_
  refine lv_istore (lv' := [(4, .int ((kMnums z) 2)), (3, .int ((kMnums z) 1)), (2, .int ((kMnums z) 0)), (0, .ref (q 0)), (1, .int p0)]) hx hb dX5_does_20 hl (by decide) rfl (fun ls hl => ?_)
  refine lv_iload_n hx hb dX5_does_22 rfl (lv_at hl 4 rfl) ?_
  by_cases c_1 : p0 = 102
  · skip
    refine lv_lookup (tgt := 81) (off := 58) hx hb dX5_does_23 (by decide) (by rw [c_1]; decide) (by decide) ?_
    refine lv_aload_n hx hb dX5_does_81 rfl (lv_at hl 3 rfl) ?_
    refine lv_iload_n hx hb dX5_does_82 rfl (lv_at hl 2 rfl) ?_
    refine mcV (rest := []) (wr := []) ⟨hx, hb, hml, hown, hts⟩ (c_X5_finishes l G cI cQ q z nv nj hm ((kMnums z) 0) _) (cwV 1 hts gX5_does_X5_finishes rfl rfl rfl cd_X5_finishes ⟨Nat.le_of_ble_eq_true rfl, Nat.le_of_ble_eq_true rfl⟩) hK hP hD hS hA [0, 1, 2, 3, 4, 5, 6] [] rfl rfl (by decide) (by decide) (by decide) 0 rfl rfl rfl rfl hl.1 rfl (Nat.le_of_ble_eq_true rfl) dX5_does_83 ⟨Nat.zero_le _, Nat.zero_le _⟩ (fun r _ H locs hr9 hP hD hS => ?_)
    subst hr9
    have hP : va_P G vwCl ((mdT cI q (uMs z (gFin (kMs z) nj ((kMnums z) 0)).2))) H := hP
    have hD : va_D A ((mdT cI q (uMs z (gFin (kMs z) nj ((kMnums z) 0)).2))) := hD
    exact m_ret () hx hb hr hlocks rfl (by first | rfl | (simp only [gDoes, eq_true c_1, eq_true (Eq.symm c_1), if_true, if_false, and_true, true_and, and_false, false_and, or_true, true_or, or_false, false_or, not_true_eq_false, not_false_eq_true, ne_eq, ite_true, ite_false]; done) | (simp only [gDoes, eq_true c_1, eq_true (Eq.symm c_1), if_true, if_false, and_true, true_and, and_false, false_and, or_true, true_or, or_false, false_or, not_true_eq_false, not_false_eq_true, ne_eq, ite_true, ite_false]; rfl)) (by rw [show (gDoes z nv nj p0).2 = (uMs z (gFin (kMs z) nj ((kMnums z) 0)).2) from by first | rfl | (simp only [gDoes, eq_true c_1, eq_true (Eq.symm c_1), if_true, if_false, and_true, true_and, and_false, false_and, or_true, true_or, or_false, false_or, not_true_eq_false, not_false_eq_true, ne_eq, ite_true, ite_false]; done) | (simp only [gDoes, eq_true c_1, eq_true (Eq.symm c_1), if_true, if_false, and_true, true_and, and_false, false_and, or_true, true_or, or_false, false_or, not_true_eq_false, not_false_eq_true, ne_eq, ite_true, ite_false]; rfl)]; exact hP) (by rw [show (gDoes z nv nj p0).2 = (uMs z (gFin (kMs z) nj ((kMnums z) 0)).2) from by first | rfl | (simp only [gDoes, eq_true c_1, eq_true (Eq.symm c_1), if_true, if_false, and_true, true_and, and_false, false_and, or_true, true_or, or_false, false_or, not_true_eq_false, not_false_eq_true, ne_eq, ite_true, ite_false]; done) | (simp only [gDoes, eq_true c_1, eq_true (Eq.symm c_1), if_true, if_false, and_true, true_and, and_false, false_and, or_true, true_or, or_false, false_or, not_true_eq_false, not_false_eq_true, ne_eq, ite_true, ite_false]; rfl)]; exact hD) hS dX5_does_86
  by_cases c_2 : p0 = 106
  · skip
    refine lv_lookup (tgt := 72) (off := 49) hx hb dX5_does_23 (by decide) (by rw [c_2]; decide) (by decide) ?_
    refine lv_aload_n hx hb dX5_does_72 rfl (lv_at hl 3 rfl) ?_
    refine lv_iload_n hx hb dX5_does_73 rfl (lv_at hl 2 rfl) ?_
    refine lv_iload_n hx hb dX5_does_74 rfl (lv_at hl 1 rfl) ?_
    refine lv_iload hx hb dX5_does_75 (lv_at hl 0 rfl) ?_
    refine mcV (rest := []) (wr := []) ⟨hx, hb, hml, hown, hts⟩ (c_X5_adds l G cI cQ q z nv nj hm ((kMnums z) 0) ((kMnums z) 1) ((kMnums z) 2) _) (cwV 3 hts gX5_does_X5_adds rfl rfl rfl cd_X5_adds ⟨Nat.le_of_ble_eq_true rfl, Nat.le_of_ble_eq_true rfl⟩) hK hP hD hS hA [0, 1, 2, 3, 4, 5, 6] [] rfl rfl (by decide) (by decide) (by decide) 0 rfl rfl rfl rfl hl.1 rfl (Nat.le_of_ble_eq_true rfl) dX5_does_77 ⟨Nat.zero_le _, Nat.zero_le _⟩ (fun r _ H locs hr9 hP hD hS => ?_)
    subst hr9
    have hP : va_P G vwCl ((mdT cI q (uMs z (gAdds (kMs z) nv nj ((kMnums z) 0) ((kMnums z) 1) ((kMnums z) 2)).2))) H := hP
    have hD : va_D A ((mdT cI q (uMs z (gAdds (kMs z) nv nj ((kMnums z) 0) ((kMnums z) 1) ((kMnums z) 2)).2))) := hD
    exact m_ret () hx hb hr hlocks rfl (by first | rfl | (simp only [gDoes, eq_false c_1, eq_false (Ne.symm c_1), eq_true c_2, eq_true (Eq.symm c_2), if_true, if_false, and_true, true_and, and_false, false_and, or_true, true_or, or_false, false_or, not_true_eq_false, not_false_eq_true, ne_eq, ite_true, ite_false]; done) | (simp only [gDoes, eq_false c_1, eq_false (Ne.symm c_1), eq_true c_2, eq_true (Eq.symm c_2), if_true, if_false, and_true, true_and, and_false, false_and, or_true, true_or, or_false, false_or, not_true_eq_false, not_false_eq_true, ne_eq, ite_true, ite_false]; rfl)) (by rw [show (gDoes z nv nj p0).2 = (uMs z (gAdds (kMs z) nv nj ((kMnums z) 0) ((kMnums z) 1) ((kMnums z) 2)).2) from by first | rfl | (simp only [gDoes, eq_false c_1, eq_false (Ne.symm c_1), eq_true c_2, eq_true (Eq.symm c_2), if_true, if_false, and_true, true_and, and_false, false_and, or_true, true_or, or_false, false_or, not_true_eq_false, not_false_eq_true, ne_eq, ite_true, ite_false]; done) | (simp only [gDoes, eq_false c_1, eq_false (Ne.symm c_1), eq_true c_2, eq_true (Eq.symm c_2), if_true, if_false, and_true, true_and, and_false, false_and, or_true, true_or, or_false, false_or, not_true_eq_false, not_false_eq_true, ne_eq, ite_true, ite_false]; rfl)]; exact hP) (by rw [show (gDoes z nv nj p0).2 = (uMs z (gAdds (kMs z) nv nj ((kMnums z) 0) ((kMnums z) 1) ((kMnums z) 2)).2) from by first | rfl | (simp only [gDoes, eq_false c_1, eq_false (Ne.symm c_1), eq_true c_2, eq_true (Eq.symm c_2), if_true, if_false, and_true, true_and, and_false, false_and, or_true, true_or, or_false, false_or, not_true_eq_false, not_false_eq_true, ne_eq, ite_true, ite_false]; done) | (simp only [gDoes, eq_false c_1, eq_false (Ne.symm c_1), eq_true c_2, eq_true (Eq.symm c_2), if_true, if_false, and_true, true_and, and_false, false_and, or_true, true_or, or_false, false_or, not_true_eq_false, not_false_eq_true, ne_eq, ite_true, ite_false]; rfl)]; exact hD) hS dX5_does_80
  by_cases c_3 : p0 = 109
  · skip
    refine lv_lookup (tgt := 87) (off := 64) hx hb dX5_does_23 (by decide) (by rw [c_3]; decide) (by decide) ?_
    refine lv_aload_n hx hb dX5_does_87 rfl (lv_at hl 3 rfl) ?_
    refine lv_iload_n hx hb dX5_does_88 rfl (lv_at hl 2 rfl) ?_
    refine lv_iload_n hx hb dX5_does_89 rfl (lv_at hl 1 rfl) ?_
    refine mcV (rest := []) (wr := []) ⟨hx, hb, hml, hown, hts⟩ (c_X5_moves l G cI cQ q z nv nj hm ((kMnums z) 0) ((kMnums z) 1) _) (cwV 2 hts gX5_does_X5_moves rfl rfl rfl cd_X5_moves ⟨Nat.le_of_ble_eq_true rfl, Nat.le_of_ble_eq_true rfl⟩) hK hP hD hS hA [0, 1, 2, 3, 4, 5, 6] [] rfl rfl (by decide) (by decide) (by decide) 0 rfl rfl rfl rfl hl.1 rfl (Nat.le_of_ble_eq_true rfl) dX5_does_90 ⟨Nat.zero_le _, Nat.zero_le _⟩ (fun r _ H locs hr9 hP hD hS => ?_)
    subst hr9
    have hP : va_P G vwCl ((mdT cI q (uMs z (gMoves (kMs z) nv nj ((kMnums z) 0) ((kMnums z) 1)).2))) H := hP
    have hD : va_D A ((mdT cI q (uMs z (gMoves (kMs z) nv nj ((kMnums z) 0) ((kMnums z) 1)).2))) := hD
    exact m_ret () hx hb hr hlocks rfl (by first | rfl | (simp only [gDoes, eq_false c_1, eq_false (Ne.symm c_1), eq_false c_2, eq_false (Ne.symm c_2), eq_true c_3, eq_true (Eq.symm c_3), if_true, if_false, and_true, true_and, and_false, false_and, or_true, true_or, or_false, false_or, not_true_eq_false, not_false_eq_true, ne_eq, ite_true, ite_false]; done) | (simp only [gDoes, eq_false c_1, eq_false (Ne.symm c_1), eq_false c_2, eq_false (Ne.symm c_2), eq_true c_3, eq_true (Eq.symm c_3), if_true, if_false, and_true, true_and, and_false, false_and, or_true, true_or, or_false, false_or, not_true_eq_false, not_false_eq_true, ne_eq, ite_true, ite_false]; rfl)) (by rw [show (gDoes z nv nj p0).2 = (uMs z (gMoves (kMs z) nv nj ((kMnums z) 0) ((kMnums z) 1)).2) from by first | rfl | (simp only [gDoes, eq_false c_1, eq_false (Ne.symm c_1), eq_false c_2, eq_false (Ne.symm c_2), eq_true c_3, eq_true (Eq.symm c_3), if_true, if_false, and_true, true_and, and_false, false_and, or_true, true_or, or_false, false_or, not_true_eq_false, not_false_eq_true, ne_eq, ite_true, ite_false]; done) | (simp only [gDoes, eq_false c_1, eq_false (Ne.symm c_1), eq_false c_2, eq_false (Ne.symm c_2), eq_true c_3, eq_true (Eq.symm c_3), if_true, if_false, and_true, true_and, and_false, false_and, or_true, true_or, or_false, false_or, not_true_eq_false, not_false_eq_true, ne_eq, ite_true, ite_false]; rfl)]; exact hP) (by rw [show (gDoes z nv nj p0).2 = (uMs z (gMoves (kMs z) nv nj ((kMnums z) 0) ((kMnums z) 1)).2) from by first | rfl | (simp only [gDoes, eq_false c_1, eq_false (Ne.symm c_1), eq_false c_2, eq_false (Ne.symm c_2), eq_true c_3, eq_true (Eq.symm c_3), if_true, if_false, and_true, true_and, and_false, false_and, or_true, true_or, or_false, false_or, not_true_eq_false, not_false_eq_true, ne_eq, ite_true, ite_false]; done) | (simp only [gDoes, eq_false c_1, eq_false (Ne.symm c_1), eq_false c_2, eq_false (Ne.symm c_2), eq_true c_3, eq_true (Eq.symm c_3), if_true, if_false, and_true, true_and, and_false, false_and, or_true, true_or, or_false, false_or, not_true_eq_false, not_false_eq_true, ne_eq, ite_true, ite_false]; rfl)]; exact hD) hS dX5_does_93
  by_cases c_4 : p0 = 114
  · skip
    refine lv_lookup (tgt := 101) (off := 78) hx hb dX5_does_23 (by decide) (by rw [c_4]; decide) (by decide) ?_
    refine lv_aload_n hx hb dX5_does_101 rfl (lv_at hl 3 rfl) ?_
    refine lv_iload_n hx hb dX5_does_102 rfl (lv_at hl 2 rfl) ?_
    refine lv_iload_n hx hb dX5_does_103 rfl (lv_at hl 1 rfl) ?_
    refine lv_iload hx hb dX5_does_104 (lv_at hl 0 rfl) ?_
    refine mcV (rest := []) (wr := []) ⟨hx, hb, hml, hown, hts⟩ (c_X5_rings l G cI cQ q z nv nj hm ((kMnums z) 0) ((kMnums z) 1) ((kMnums z) 2) _) (cwV 3 hts gX5_does_X5_rings rfl rfl rfl cd_X5_rings ⟨Nat.le_of_ble_eq_true rfl, Nat.le_of_ble_eq_true rfl⟩) hK hP hD hS hA [0, 1, 2, 3, 4, 5, 6] [] rfl rfl (by decide) (by decide) (by decide) 0 rfl rfl rfl rfl hl.1 rfl (Nat.le_of_ble_eq_true rfl) dX5_does_106 ⟨Nat.zero_le _, Nat.zero_le _⟩ (fun r _ H locs hr9 hP hD hS => ?_)
    subst hr9
    have hP : va_P G vwCl ((mdT cI q (uMs z (gRing (kMs z) nv nj ((kMnums z) 0) ((kMnums z) 1) ((kMnums z) 2)).2))) H := hP
    have hD : va_D A ((mdT cI q (uMs z (gRing (kMs z) nv nj ((kMnums z) 0) ((kMnums z) 1) ((kMnums z) 2)).2))) := hD
    exact m_ret () hx hb hr hlocks rfl (by first | rfl | (simp only [gDoes, eq_false c_1, eq_false (Ne.symm c_1), eq_false c_2, eq_false (Ne.symm c_2), eq_false c_3, eq_false (Ne.symm c_3), eq_true c_4, eq_true (Eq.symm c_4), if_true, if_false, and_true, true_and, and_false, false_and, or_true, true_or, or_false, false_or, not_true_eq_false, not_false_eq_true, ne_eq, ite_true, ite_false]; done) | (simp only [gDoes, eq_false c_1, eq_false (Ne.symm c_1), eq_false c_2, eq_false (Ne.symm c_2), eq_false c_3, eq_false (Ne.symm c_3), eq_true c_4, eq_true (Eq.symm c_4), if_true, if_false, and_true, true_and, and_false, false_and, or_true, true_or, or_false, false_or, not_true_eq_false, not_false_eq_true, ne_eq, ite_true, ite_false]; rfl)) (by rw [show (gDoes z nv nj p0).2 = (uMs z (gRing (kMs z) nv nj ((kMnums z) 0) ((kMnums z) 1) ((kMnums z) 2)).2) from by first | rfl | (simp only [gDoes, eq_false c_1, eq_false (Ne.symm c_1), eq_false c_2, eq_false (Ne.symm c_2), eq_false c_3, eq_false (Ne.symm c_3), eq_true c_4, eq_true (Eq.symm c_4), if_true, if_false, and_true, true_and, and_false, false_and, or_true, true_or, or_false, false_or, not_true_eq_false, not_false_eq_true, ne_eq, ite_true, ite_false]; done) | (simp only [gDoes, eq_false c_1, eq_false (Ne.symm c_1), eq_false c_2, eq_false (Ne.symm c_2), eq_false c_3, eq_false (Ne.symm c_3), eq_true c_4, eq_true (Eq.symm c_4), if_true, if_false, and_true, true_and, and_false, false_and, or_true, true_or, or_false, false_or, not_true_eq_false, not_false_eq_true, ne_eq, ite_true, ite_false]; rfl)]; exact hP) (by rw [show (gDoes z nv nj p0).2 = (uMs z (gRing (kMs z) nv nj ((kMnums z) 0) ((kMnums z) 1) ((kMnums z) 2)).2) from by first | rfl | (simp only [gDoes, eq_false c_1, eq_false (Ne.symm c_1), eq_false c_2, eq_false (Ne.symm c_2), eq_false c_3, eq_false (Ne.symm c_3), eq_true c_4, eq_true (Eq.symm c_4), if_true, if_false, and_true, true_and, and_false, false_and, or_true, true_or, or_false, false_or, not_true_eq_false, not_false_eq_true, ne_eq, ite_true, ite_false]; done) | (simp only [gDoes, eq_false c_1, eq_false (Ne.symm c_1), eq_false c_2, eq_false (Ne.symm c_2), eq_false c_3, eq_false (Ne.symm c_3), eq_true c_4, eq_true (Eq.symm c_4), if_true, if_false, and_true, true_and, and_false, false_and, or_true, true_or, or_false, false_or, not_true_eq_false, not_false_eq_true, ne_eq, ite_true, ite_false]; rfl)]; exact hD) hS dX5_does_109
  by_cases c_5 : p0 = 120
  · skip
    refine lv_lookup (tgt := 94) (off := 71) hx hb dX5_does_23 (by decide) (by rw [c_5]; decide) (by decide) ?_
    refine lv_aload_n hx hb dX5_does_94 rfl (lv_at hl 3 rfl) ?_
    refine lv_iload_n hx hb dX5_does_95 rfl (lv_at hl 2 rfl) ?_
    refine lv_iload_n hx hb dX5_does_96 rfl (lv_at hl 1 rfl) ?_
    refine mcV (rest := []) (wr := []) ⟨hx, hb, hml, hown, hts⟩ (c_X5_exchanges l G cI cQ q z nv nj hm ((kMnums z) 0) ((kMnums z) 1) _) (cwV 2 hts gX5_does_X5_exchanges rfl rfl rfl cd_X5_exchanges ⟨Nat.le_of_ble_eq_true rfl, Nat.le_of_ble_eq_true rfl⟩) hK hP hD hS hA [0, 1, 2, 3, 4, 5, 6] [] rfl rfl (by decide) (by decide) (by decide) 0 rfl rfl rfl rfl hl.1 rfl (Nat.le_of_ble_eq_true rfl) dX5_does_97 ⟨Nat.zero_le _, Nat.zero_le _⟩ (fun r _ H locs hr9 hP hD hS => ?_)
    subst hr9
    have hP : va_P G vwCl ((mdT cI q (uMs z (gExch (kMs z) nv nj ((kMnums z) 0) ((kMnums z) 1)).2))) H := hP
    have hD : va_D A ((mdT cI q (uMs z (gExch (kMs z) nv nj ((kMnums z) 0) ((kMnums z) 1)).2))) := hD
    exact m_ret () hx hb hr hlocks rfl (by first | rfl | (simp only [gDoes, eq_false c_1, eq_false (Ne.symm c_1), eq_false c_2, eq_false (Ne.symm c_2), eq_false c_3, eq_false (Ne.symm c_3), eq_false c_4, eq_false (Ne.symm c_4), eq_true c_5, eq_true (Eq.symm c_5), if_true, if_false, and_true, true_and, and_false, false_and, or_true, true_or, or_false, false_or, not_true_eq_false, not_false_eq_true, ne_eq, ite_true, ite_false]; done) | (simp only [gDoes, eq_false c_1, eq_false (Ne.symm c_1), eq_false c_2, eq_false (Ne.symm c_2), eq_false c_3, eq_false (Ne.symm c_3), eq_false c_4, eq_false (Ne.symm c_4), eq_true c_5, eq_true (Eq.symm c_5), if_true, if_false, and_true, true_and, and_false, false_and, or_true, true_or, or_false, false_or, not_true_eq_false, not_false_eq_true, ne_eq, ite_true, ite_false]; rfl)) (by rw [show (gDoes z nv nj p0).2 = (uMs z (gExch (kMs z) nv nj ((kMnums z) 0) ((kMnums z) 1)).2) from by first | rfl | (simp only [gDoes, eq_false c_1, eq_false (Ne.symm c_1), eq_false c_2, eq_false (Ne.symm c_2), eq_false c_3, eq_false (Ne.symm c_3), eq_false c_4, eq_false (Ne.symm c_4), eq_true c_5, eq_true (Eq.symm c_5), if_true, if_false, and_true, true_and, and_false, false_and, or_true, true_or, or_false, false_or, not_true_eq_false, not_false_eq_true, ne_eq, ite_true, ite_false]; done) | (simp only [gDoes, eq_false c_1, eq_false (Ne.symm c_1), eq_false c_2, eq_false (Ne.symm c_2), eq_false c_3, eq_false (Ne.symm c_3), eq_false c_4, eq_false (Ne.symm c_4), eq_true c_5, eq_true (Eq.symm c_5), if_true, if_false, and_true, true_and, and_false, false_and, or_true, true_or, or_false, false_or, not_true_eq_false, not_false_eq_true, ne_eq, ite_true, ite_false]; rfl)]; exact hP) (by rw [show (gDoes z nv nj p0).2 = (uMs z (gExch (kMs z) nv nj ((kMnums z) 0) ((kMnums z) 1)).2) from by first | rfl | (simp only [gDoes, eq_false c_1, eq_false (Ne.symm c_1), eq_false c_2, eq_false (Ne.symm c_2), eq_false c_3, eq_false (Ne.symm c_3), eq_false c_4, eq_false (Ne.symm c_4), eq_true c_5, eq_true (Eq.symm c_5), if_true, if_false, and_true, true_and, and_false, false_and, or_true, true_or, or_false, false_or, not_true_eq_false, not_false_eq_true, ne_eq, ite_true, ite_false]; done) | (simp only [gDoes, eq_false c_1, eq_false (Ne.symm c_1), eq_false c_2, eq_false (Ne.symm c_2), eq_false c_3, eq_false (Ne.symm c_3), eq_false c_4, eq_false (Ne.symm c_4), eq_true c_5, eq_true (Eq.symm c_5), if_true, if_false, and_true, true_and, and_false, false_and, or_true, true_or, or_false, false_or, not_true_eq_false, not_false_eq_true, ne_eq, ite_true, ite_false]; rfl)]; exact hD) hS dX5_does_100
  refine lv_lookup (tgt := 110) (off := 87) hx hb dX5_does_23 (by decide) (by show (if (102 : Int) = (p0).toInt then (58 : Int) else if (106 : Int) = (p0).toInt then (49 : Int) else if (109 : Int) = (p0).toInt then (64 : Int) else if (114 : Int) = (p0).toInt then (78 : Int) else if (120 : Int) = (p0).toInt then (71 : Int) else (87 : Int)) = _; rw [if_neg (fun h => c_1 (Int32.toInt_inj.mp (h.symm.trans (by decide)))), if_neg (fun h => c_2 (Int32.toInt_inj.mp (h.symm.trans (by decide)))), if_neg (fun h => c_3 (Int32.toInt_inj.mp (h.symm.trans (by decide)))), if_neg (fun h => c_4 (Int32.toInt_inj.mp (h.symm.trans (by decide)))), if_neg (fun h => c_5 (Int32.toInt_inj.mp (h.symm.trans (by decide))))]) (by decide) ?_
  refine lv_aload_n hx hb dX5_does_110 rfl (lv_at hl 3 rfl) ?_
  refine lv_iload_n hx hb dX5_does_111 rfl (lv_at hl 2 rfl) ?_
  refine mcV (rest := []) (wr := []) ⟨hx, hb, hml, hown, hts⟩ (c_X5_evensBy l G cI cQ q z nv nj ((kMnums z) 0) hV _) (cwV 1 hts gX5_does_X5_evensBy rfl rfl rfl cd_X5_evensBy ⟨Nat.le_of_ble_eq_true rfl, Nat.le_of_ble_eq_true rfl⟩) hK hP hD hS hA [0, 1, 2, 3, 4, 5, 6] [] rfl rfl (by decide) (by decide) (by decide) 0 rfl rfl rfl rfl hl.1 rfl (Nat.le_of_ble_eq_true rfl) dX5_does_112 ⟨Nat.zero_le _, Nat.zero_le _⟩ (fun r _ H locs hr9 hP hD hS => ?_)
  subst hr9
  have hP : va_P G vwCl ((mdT cI q ((gEvB z nv nj ((kMnums z) 0)).2))) H := hP
  have hD : va_D A ((mdT cI q ((gEvB z nv nj ((kMnums z) 0)).2))) := hD
  exact m_ret () hx hb hr hlocks rfl (by first | rfl | (simp only [gDoes, eq_false c_1, eq_false (Ne.symm c_1), eq_false c_2, eq_false (Ne.symm c_2), eq_false c_3, eq_false (Ne.symm c_3), eq_false c_4, eq_false (Ne.symm c_4), eq_false c_5, eq_false (Ne.symm c_5), if_true, if_false, and_true, true_and, and_false, false_and, or_true, true_or, or_false, false_or, not_true_eq_false, not_false_eq_true, ne_eq, ite_true, ite_false]; done) | (simp only [gDoes, eq_false c_1, eq_false (Ne.symm c_1), eq_false c_2, eq_false (Ne.symm c_2), eq_false c_3, eq_false (Ne.symm c_3), eq_false c_4, eq_false (Ne.symm c_4), eq_false c_5, eq_false (Ne.symm c_5), if_true, if_false, and_true, true_and, and_false, false_and, or_true, true_or, or_false, false_or, not_true_eq_false, not_false_eq_true, ne_eq, ite_true, ite_false]; rfl)) (by rw [show (gDoes z nv nj p0).2 = ((gEvB z nv nj ((kMnums z) 0)).2) from by first | rfl | (simp only [gDoes, eq_false c_1, eq_false (Ne.symm c_1), eq_false c_2, eq_false (Ne.symm c_2), eq_false c_3, eq_false (Ne.symm c_3), eq_false c_4, eq_false (Ne.symm c_4), eq_false c_5, eq_false (Ne.symm c_5), if_true, if_false, and_true, true_and, and_false, false_and, or_true, true_or, or_false, false_or, not_true_eq_false, not_false_eq_true, ne_eq, ite_true, ite_false]; done) | (simp only [gDoes, eq_false c_1, eq_false (Ne.symm c_1), eq_false c_2, eq_false (Ne.symm c_2), eq_false c_3, eq_false (Ne.symm c_3), eq_false c_4, eq_false (Ne.symm c_4), eq_false c_5, eq_false (Ne.symm c_5), if_true, if_false, and_true, true_and, and_false, false_and, or_true, true_or, or_false, false_or, not_true_eq_false, not_false_eq_true, ne_eq, ite_true, ite_false]; rfl)]; exact hP) (by rw [show (gDoes z nv nj p0).2 = ((gEvB z nv nj ((kMnums z) 0)).2) from by first | rfl | (simp only [gDoes, eq_false c_1, eq_false (Ne.symm c_1), eq_false c_2, eq_false (Ne.symm c_2), eq_false c_3, eq_false (Ne.symm c_3), eq_false c_4, eq_false (Ne.symm c_4), eq_false c_5, eq_false (Ne.symm c_5), if_true, if_false, and_true, true_and, and_false, false_and, or_true, true_or, or_false, false_or, not_true_eq_false, not_false_eq_true, ne_eq, ite_true, ite_false]; done) | (simp only [gDoes, eq_false c_1, eq_false (Ne.symm c_1), eq_false c_2, eq_false (Ne.symm c_2), eq_false c_3, eq_false (Ne.symm c_3), eq_false c_4, eq_false (Ne.symm c_4), eq_false c_5, eq_false (Ne.symm c_5), if_true, if_false, and_true, true_and, and_false, false_and, or_true, true_or, or_false, false_or, not_true_eq_false, not_false_eq_true, ne_eq, ite_true, ite_false]; rfl)]; exact hD) hS dX5_does_115
theorem cd_X5_does : yX5_does.cls = RX5 ∧ yX5_does.cls ≠ "java/lang/invoke/MethodHandle" ∧ yX5_does.cls ≠ "java/lang/invoke/VarHandle" ∧ (parseMethodDescriptor yX5_does.desc).map (fun d => d.parameters.length) = some 1 := by decide +kernel
-- X5_order
theorem lk_X5_order_1 : Cond.fieldLink RX5 160 "EvenLoadsModel" "at" "I" ∈ wsX5_order := List.mem_of_getElem? (i := 1) (by decide +kernel)
theorem lk_X5_order_2 : Cond.fieldLink RX5 166 "EvenLoadsModel" "failing" "I" ∈ wsX5_order := List.mem_of_getElem? (i := 2) (by decide +kernel)
theorem in_X5_order_X5 : ∀ w ∈ wsX50, w ∈ wsX5_order := by decide +kernel
set_option maxHeartbeats 4000000 in
set_option maxRecDepth 100000 in
theorem c_X5_order (l : Launch) (G : va_G) (cI cQ : ClassId) (q : Nat → Nat) (z : MS) (nv nj : Nat) (hV : mV (kMs z) nv nj) (hT : mT z) (sz0 : Nat) : Met l yX5_order wsX5_order ({ frames := 10, cells := 0, slots := 0, locals := 216 } : Room) (mPc G cI cQ [.ref (q 0)] ((mdT cI q z)) sz0) (va_Qv (fun (_ : Unit) => True) (mB G (va_A ((mdT cI q z)) sz0) (fun _ => (mdT cI q (gOrder z nv nj)))) (va_A ((mdT cI q z)) sz0)) 0 0 (va_A ((mdT cI q z)) sz0) := by
  refine mm_ofv (cc := cX5_order) (maxL := 6) (ret := none) (own := RX5) (by decide) rfl rfl (Nat.le_of_ble_eq_true rfl) rfl ?_
  intro p e s m below meth cd ls A hx hb hr hts hown hlocks hml hA hK hP hD hS hl
  refine lv_aload_n hx hb dX5_order_0 rfl (lv_at hl 0 rfl) ?_
  refine va_get (D := G) (ci := 5) (v := .int (nI (kMat z))) (C := RX5) (T := TX5) (N := 15) hx hb hts in_X5_order_X5 hown hK.1 hP 0 rfl rfl 10 (by decide) (hts _ lk_X5_order_1) (fun _ h9 => h9) rfl dX5_order_1 ?_
  refine lv_istore_n (lv' := [(1, .int (nI (kMat z))), (0, .ref (q 0))]) hx hb dX5_order_4 rfl hl (by decide) rfl (fun ls hl => ?_)
  refine lv_aload_n hx hb dX5_order_5 rfl (lv_at hl 1 rfl) ?_
  refine pcV (rest := []) ⟨hx, hb, hml, hown, hts⟩ (c_X5_look l G cI cQ q z hT) (cwV 0 hts gX5_order_X5_look rfl rfl rfl cd_X5_look ⟨Nat.le_of_ble_eq_true rfl, Nat.le_of_ble_eq_true rfl⟩) hK hP [0, 1, 2, 3, 4, 5, 6] rfl 0 rfl rfl rfl rfl hl.1 rfl (Nat.le_of_ble_eq_true rfl) dX5_order_6 ⟨Nat.zero_le _, Nat.zero_le _⟩ ?_
  refine lv_istore_n (lv' := [(2, .int (rLook z)), (1, .int (nI (kMat z))), (0, .ref (q 0))]) hx hb dX5_order_9 rfl hl (by decide) rfl (fun ls hl => ?_)
  refine lv_iload_n hx hb dX5_order_10 rfl (lv_at hl 0 rfl) ?_
  refine pcS (rest := []) ⟨hx, hb, hml, hown, hts⟩ (c_X5_manyOf l G cI cQ (rLook z)) (cwS 1 hts gX5_order_X5_manyOf rfl rfl rfl cd_X5_manyOf ⟨Nat.le_of_ble_eq_true rfl, Nat.le_of_ble_eq_true rfl⟩) hK hP [] rfl rfl hl.1 rfl (Nat.le_of_ble_eq_true rfl) dX5_order_11 ⟨Nat.zero_le _, Nat.zero_le _⟩ ?_
  refine lv_istore_n (lv' := [(3, .int (numOf (rLook z))), (2, .int (rLook z)), (1, .int (nI (kMat z))), (0, .ref (q 0))]) hx hb dX5_order_14 rfl hl (by decide) rfl (fun ls hl => ?_)
  refine lv_iload_n hx hb dX5_order_15 rfl (lv_at hl 0 rfl) ?_
  refine lv_if_ne (tgt := 25) hx hb dX5_order_16 (by decide) (fun c_1 => ?_) (fun c_1 => ?_)
  · skip
    have hT2 := mT_oS hT c_1
    have hTA := mT_zA hT c_1
    refine lv_aload_n hx hb dX5_order_25 rfl (lv_at hl 3 rfl) ?_
    refine lv_dup hx hb dX5_order_26 rfl ?_
    refine va_get (D := G) (ci := 5) (v := .int (nI (kMat z))) (C := RX5) (T := TX5) (N := 15) hx hb hts in_X5_order_X5 hown hK.1 hP 0 rfl rfl 10 (by decide) (hts _ lk_X5_order_1) (fun _ h9 => h9) rfl dX5_order_27 ?_
    refine lv_iconst (v := 1) hx hb dX5_order_30 (by decide) ?_
    refine lv_iadd hx hb dX5_order_31 ?_
    refine lv_cvt (y := (nI ((kMat z) + 1))) (nI_1 _) ?_
    refine va_put (D := G) (ci := 5) (v := .int (nI ((kMat z) + 1))) (ty := .int) (C := RX5) (T := TX5) (N := 15) hx hb hts in_X5_order_X5 tyX5 tyX5_ok nmX5 hown hK.1 hP hD hS 0 rfl rfl 10 (by decide) (hts _ lk_X5_order_1) (fun _ h9 => h9) rfl (by decide +kernel) rfl rfl (Nat.le_of_ble_eq_true rfl) dX5_order_32 (fun H locs hP hD hS => ?_)
    have hP : va_P G vwCl ((mdT cI q (uMat z ((kMat z) + 1)))) H := hP
    have hD : va_D A ((mdT cI q (uMat z ((kMat z) + 1)))) := hD
    refine lv_iconst (v := 0) hx hb dX5_order_35 (by decide) ?_
    refine lv_istore (lv' := [(4, .int 0), (3, .int (numOf (rLook z))), (2, .int (rLook z)), (1, .int (nI (kMat z))), (0, .ref (q 0))]) hx hb dX5_order_36 hl (by decide) rfl (fun ls hl => ?_)
    have L38 : ∀ (n38 i38 : Nat), 0 ≤ i38 → i38 ≤ (oN z) → (oN z) + 1 ≤ i38 + n38 → zA z = orA (oN z - i38) i38 (itO (oS z) i38) → ∀ (H : Heap) (locs : List Loc), va_P G vwCl ((mdT cI q (itO (oS z) i38))) H → va_D A ((mdT cI q (itO (oS z) i38))) → va_S A s.heap H locs → ∀ (ls : Array Slot), lv_has ls 6 [(4, .int (nI i38)), (3, .int (numOf (rLook z))), (2, .int (rLook z)), (1, .int (nI (kMat z))), (0, .ref (q 0))] → W p l e ({ frames := 10, cells := 0, slots := 0, locals := 216 } : Room) s m ([.ref (q 0)] : List Value).toArray below meth cd H locs 0 0 (MQ below (va_Qv (fun (_ : Unit) => True) (mB G (A) (fun _ => (mdT cI q (gOrder z nv nj)))) (A)) ([.ref (q 0)] : List Value).toArray s 0 0 A) (F0 m 38 ls []) := by
      intro n38
      induction n38 with
      | zero => intro i38 h0 h1 h2; exact absurd h2 (by omega)
      | succ n38 ih38 =>
        intro i38 hlo38 hle38 hin38 hinv H locs hP hD hS ls hl
        have hN9 : oN z ≤ 3 := (num_nI (rLook z)).1
        refine lv_iload hx hb dX5_order_38 (lv_at hl 0 rfl) ?_
        refine lv_iload_n hx hb dX5_order_40 rfl (lv_at hl 1 rfl) ?_
        refine lv_cvt (y := (nI (oN z))) (num_nI (rLook z)).2 ?_
        refine lv_icmp_ge (tgt := 90) hx hb dX5_order_41 (by decide) (fun c_2 => ?_) (fun c_2 => ?_)
        · skip
          have q_3 : (oN z) = i38 := by have h9 := (nI_leI (a := (oN z)) (b := i38) (by omega) (by omega)).mp c_2; omega
          subst q_3
          have q9 : itO (oS z) (oN z) = zA z := (show zA z = itO (oS z) (oN z) from (by rw [hinv, Nat.sub_self]; rfl)).symm
          rw [q9] at hP hD
          have hP : va_P G vwCl ((mdT cI q (zA z))) H := hP
          have hD : va_D A ((mdT cI q (zA z))) := hD
          refine lv_aload_n hx hb dX5_order_90 rfl (lv_at hl 4 rfl) ?_
          refine va_get (D := G) (ci := 5) (v := .int (kMfail (zA z))) (C := RX5) (T := TX5) (N := 15) hx hb hts in_X5_order_X5 hown hK.1 hP 0 rfl rfl 11 (by decide) (hts _ lk_X5_order_2) (fun _ h9 => h9) rfl dX5_order_91 ?_
          refine lv_bipush (v := (-9)) hx hb dX5_order_94 (by decide) ?_
          refine lv_icmp_eq (tgt := 100) hx hb dX5_order_96 (by decide) (fun c_4 => ?_) (fun c_4 => ?_)
          · skip
            refine lv_aload_n hx hb dX5_order_100 rfl (lv_at hl 4 rfl) ?_
            refine mcV (rest := []) (wr := []) ⟨hx, hb, hml, hown, hts⟩ (c_X5_skips l G cI cQ q (zA z) hTA _) (cwV 0 hts gX5_order_X5_skips rfl rfl rfl cd_X5_skips ⟨Nat.le_of_ble_eq_true rfl, Nat.le_of_ble_eq_true rfl⟩) hK hP hD hS hA [0, 1, 2, 3, 4, 5, 6] [] rfl rfl (by decide) (by decide) (by decide) 0 rfl rfl rfl rfl hl.1 rfl (Nat.le_of_ble_eq_true rfl) dX5_order_101 ⟨Nat.zero_le _, Nat.zero_le _⟩ (fun r _ H locs hr9 hP hD hS => ?_)
            subst hr9
            have hP : va_P G vwCl ((mdT cI q (uMat (zA z) (kMat (zA z) + sk (zA z))))) H := hP
            have hD : va_D A ((mdT cI q (uMat (zA z) (kMat (zA z) + sk (zA z))))) := hD
            refine lv_pop hx hb dX5_order_104 rfl ?_
            refine lv_aload_n hx hb dX5_order_105 rfl (lv_at hl 4 rfl) ?_
            refine pcV (rest := []) ⟨hx, hb, hml, hown, hts⟩ (c_X5_look l G cI cQ q (uMat (zA z) (kMat (zA z) + sk (zA z))) (mT_skip hTA)) (cwV 0 hts gX5_order_X5_look rfl rfl rfl cd_X5_look ⟨Nat.le_of_ble_eq_true rfl, Nat.le_of_ble_eq_true rfl⟩) hK hP [0, 1, 2, 3, 4, 5, 6] rfl 0 rfl rfl rfl rfl hl.1 rfl (Nat.le_of_ble_eq_true rfl) dX5_order_106 ⟨Nat.zero_le _, Nat.zero_le _⟩ ?_
            refine lv_bipush (v := 59) hx hb dX5_order_109 (by decide) ?_
            refine lv_icmp_eq (tgt := 123) hx hb dX5_order_111 (by decide) (fun c_5 => ?_) (fun c_5 => ?_)
            · skip
              refine lv_aload_n hx hb dX5_order_123 rfl (lv_at hl 4 rfl) ?_
              refine lv_dup hx hb dX5_order_124 rfl ?_
              refine va_get (D := G) (ci := 5) (v := .int (nI (kMat (zA z) + sk (zA z)))) (C := RX5) (T := TX5) (N := 15) hx hb hts in_X5_order_X5 hown hK.1 hP 0 rfl rfl 10 (by decide) (hts _ lk_X5_order_1) (fun _ h9 => h9) rfl dX5_order_125 ?_
              refine lv_iconst (v := 1) hx hb dX5_order_128 (by decide) ?_
              refine lv_iadd hx hb dX5_order_129 ?_
              refine lv_cvt (y := (nI ((kMat (zA z) + sk (zA z)) + 1))) (nI_1 _) ?_
              refine va_put (D := G) (ci := 5) (v := .int (nI ((kMat (zA z) + sk (zA z)) + 1))) (ty := .int) (C := RX5) (T := TX5) (N := 15) hx hb hts in_X5_order_X5 tyX5 tyX5_ok nmX5 hown hK.1 hP hD hS 0 rfl rfl 10 (by decide) (hts _ lk_X5_order_1) (fun _ h9 => h9) rfl (by decide +kernel) rfl rfl (Nat.le_of_ble_eq_true rfl) dX5_order_130 (fun H locs hP hD hS => ?_)
              have hP : va_P G vwCl ((mdT cI q (uMat (zA z) ((kMat (zA z) + sk (zA z)) + 1)))) H := hP
              have hD : va_D A ((mdT cI q (uMat (zA z) ((kMat (zA z) + sk (zA z)) + 1)))) := hD
              refine lv_aload_n hx hb dX5_order_133 rfl (lv_at hl 4 rfl) ?_
              refine lv_aload_n hx hb dX5_order_134 rfl (lv_at hl 4 rfl) ?_
              refine lv_iload_n hx hb dX5_order_135 rfl (lv_at hl 2 rfl) ?_
              refine mcV (rest := [.ref (q 0)]) (wr := []) ⟨hx, hb, hml, hown, hts⟩ (c_X5_does l G cI cQ q (uMat (zA z) ((kMat (zA z) + sk (zA z)) + 1)) nv nj (rLook z) (by show mV (kMs (zA z)) nv nj; rw [s_zA]; exact hV) _) (cwV 1 hts gX5_order_X5_does rfl rfl rfl cd_X5_does ⟨Nat.le_of_ble_eq_true rfl, Nat.le_of_ble_eq_true rfl⟩) hK hP hD hS hA [0, 1, 2, 3, 4, 5, 6] [] rfl rfl (by decide) (by decide) (by decide) 0 rfl rfl rfl rfl hl.1 rfl (Nat.le_of_ble_eq_true rfl) dX5_order_136 ⟨Nat.zero_le _, Nat.zero_le _⟩ (fun r _ H locs hr9 hP hD hS => ?_)
              subst hr9
              have hP : va_P G vwCl ((mdT cI q ((gDoes (uMat (zA z) ((kMat (zA z) + sk (zA z)) + 1)) nv nj (rLook z)).2))) H := hP
              have hD : va_D A ((mdT cI q ((gDoes (uMat (zA z) ((kMat (zA z) + sk (zA z)) + 1)) nv nj (rLook z)).2))) := hD
              refine lv_if_ge (tgt := 146) hx hb dX5_order_139 (by decide) (fun c_6 => ?_) (fun c_6 => ?_)
              · skip
                refine lv_bipush (v := (-9)) hx hb dX5_order_146 (by decide) ?_
                refine va_put (D := G) (ci := 5) (v := .int (-9)) (ty := .int) (C := RX5) (T := TX5) (N := 15) hx hb hts in_X5_order_X5 tyX5 tyX5_ok nmX5 hown hK.1 hP hD hS 0 rfl rfl 11 (by decide) (hts _ lk_X5_order_2) (fun _ h9 => h9) rfl (by decide +kernel) rfl rfl (Nat.le_of_ble_eq_true rfl) dX5_order_148 (fun H locs hP hD hS => ?_)
                have hP : va_P G vwCl ((mdT cI q (uMfail ((gDoes (uMat (zA z) ((kMat (zA z) + sk (zA z)) + 1)) nv nj (rLook z)).2) (-9)))) H := hP
                have hD : va_D A ((mdT cI q (uMfail ((gDoes (uMat (zA z) ((kMat (zA z) + sk (zA z)) + 1)) nv nj (rLook z)).2) (-9)))) := hD
                exact m_vret () hx hb hr hlocks trivial (by rw [show (gOrder z nv nj) = (uMfail ((gDoes (uMat (zA z) ((kMat (zA z) + sk (zA z)) + 1)) nv nj (rLook z)).2) (-9)) from by (show gOrder z nv nj = _); unfold gOrder; simp only [eq_false c_1, eq_false (Ne.symm c_1), eq_true c_4, eq_true (Eq.symm c_4), eq_true c_5, eq_true (Eq.symm c_5), eq_true c_6, eq_false (Int32.not_lt.mpr c_6), if_true, if_false, and_true, true_and, and_false, false_and, or_true, true_or, or_false, false_or, not_true_eq_false, not_false_eq_true, ne_eq, ite_true, ite_false]]; exact hP) (by rw [show (gOrder z nv nj) = (uMfail ((gDoes (uMat (zA z) ((kMat (zA z) + sk (zA z)) + 1)) nv nj (rLook z)).2) (-9)) from by (show gOrder z nv nj = _); unfold gOrder; simp only [eq_false c_1, eq_false (Ne.symm c_1), eq_true c_4, eq_true (Eq.symm c_4), eq_true c_5, eq_true (Eq.symm c_5), eq_true c_6, eq_false (Int32.not_lt.mpr c_6), if_true, if_false, and_true, true_and, and_false, false_and, or_true, true_or, or_false, false_or, not_true_eq_false, not_false_eq_true, ne_eq, ite_true, ite_false]]; exact hD) hS dX5_order_151
              · skip
                refine lv_iload_n hx hb dX5_order_142 rfl (lv_at hl 3 rfl) ?_
                refine lv_goto (tgt := 148) hx hb dX5_order_143 (by decide) ?_
                refine va_put (D := G) (ci := 5) (v := .int (nI (kMat z))) (ty := .int) (C := RX5) (T := TX5) (N := 15) hx hb hts in_X5_order_X5 tyX5 tyX5_ok nmX5 hown hK.1 hP hD hS 0 rfl rfl 11 (by decide) (hts _ lk_X5_order_2) (fun _ h9 => h9) rfl (by decide +kernel) rfl rfl (Nat.le_of_ble_eq_true rfl) dX5_order_148 (fun H locs hP hD hS => ?_)
                have hP : va_P G vwCl ((mdT cI q (uMfail ((gDoes (uMat (zA z) ((kMat (zA z) + sk (zA z)) + 1)) nv nj (rLook z)).2) (nI (kMat z))))) H := hP
                have hD : va_D A ((mdT cI q (uMfail ((gDoes (uMat (zA z) ((kMat (zA z) + sk (zA z)) + 1)) nv nj (rLook z)).2) (nI (kMat z))))) := hD
                exact m_vret () hx hb hr hlocks trivial (by rw [show (gOrder z nv nj) = (uMfail ((gDoes (uMat (zA z) ((kMat (zA z) + sk (zA z)) + 1)) nv nj (rLook z)).2) (nI (kMat z))) from by (show gOrder z nv nj = _); unfold gOrder; simp only [eq_false c_1, eq_false (Ne.symm c_1), eq_true c_4, eq_true (Eq.symm c_4), eq_true c_5, eq_true (Eq.symm c_5), eq_false c_6, eq_true (Int32.not_le.mp c_6), if_true, if_false, and_true, true_and, and_false, false_and, or_true, true_or, or_false, false_or, not_true_eq_false, not_false_eq_true, ne_eq, ite_true, ite_false]]; exact hP) (by rw [show (gOrder z nv nj) = (uMfail ((gDoes (uMat (zA z) ((kMat (zA z) + sk (zA z)) + 1)) nv nj (rLook z)).2) (nI (kMat z))) from by (show gOrder z nv nj = _); unfold gOrder; simp only [eq_false c_1, eq_false (Ne.symm c_1), eq_true c_4, eq_true (Eq.symm c_4), eq_true c_5, eq_true (Eq.symm c_5), eq_false c_6, eq_true (Int32.not_le.mp c_6), if_true, if_false, and_true, true_and, and_false, false_and, or_true, true_or, or_false, false_or, not_true_eq_false, not_false_eq_true, ne_eq, ite_true, ite_false]]; exact hD) hS dX5_order_151
            · skip
              refine lv_aload_n hx hb dX5_order_114 rfl (lv_at hl 4 rfl) ?_
              refine lv_aload_n hx hb dX5_order_115 rfl (lv_at hl 4 rfl) ?_
              refine va_get (D := G) (ci := 5) (v := .int (nI (kMat (zA z) + sk (zA z)))) (C := RX5) (T := TX5) (N := 15) hx hb hts in_X5_order_X5 hown hK.1 hP 0 rfl rfl 10 (by decide) (hts _ lk_X5_order_1) (fun _ h9 => h9) rfl dX5_order_116 ?_
              refine va_put (D := G) (ci := 5) (v := .int (nI (kMat (zA z) + sk (zA z)))) (ty := .int) (C := RX5) (T := TX5) (N := 15) hx hb hts in_X5_order_X5 tyX5 tyX5_ok nmX5 hown hK.1 hP hD hS 0 rfl rfl 11 (by decide) (hts _ lk_X5_order_2) (fun _ h9 => h9) rfl (by decide +kernel) rfl rfl (Nat.le_of_ble_eq_true rfl) dX5_order_119 (fun H locs hP hD hS => ?_)
              have hP : va_P G vwCl ((mdT cI q (uMfail (uMat (zA z) (kMat (zA z) + sk (zA z))) (nI (kMat (zA z) + sk (zA z)))))) H := hP
              have hD : va_D A ((mdT cI q (uMfail (uMat (zA z) (kMat (zA z) + sk (zA z))) (nI (kMat (zA z) + sk (zA z)))))) := hD
              exact m_vret () hx hb hr hlocks trivial (by rw [show (gOrder z nv nj) = (uMfail (uMat (zA z) (kMat (zA z) + sk (zA z))) (nI (kMat (zA z) + sk (zA z)))) from by (show gOrder z nv nj = _); unfold gOrder; simp only [eq_false c_1, eq_false (Ne.symm c_1), eq_true c_4, eq_true (Eq.symm c_4), eq_false c_5, eq_false (Ne.symm c_5), if_true, if_false, and_true, true_and, and_false, false_and, or_true, true_or, or_false, false_or, not_true_eq_false, not_false_eq_true, ne_eq, ite_true, ite_false]]; exact hP) (by rw [show (gOrder z nv nj) = (uMfail (uMat (zA z) (kMat (zA z) + sk (zA z))) (nI (kMat (zA z) + sk (zA z)))) from by (show gOrder z nv nj = _); unfold gOrder; simp only [eq_false c_1, eq_false (Ne.symm c_1), eq_true c_4, eq_true (Eq.symm c_4), eq_false c_5, eq_false (Ne.symm c_5), if_true, if_false, and_true, true_and, and_false, false_and, or_true, true_or, or_false, false_or, not_true_eq_false, not_false_eq_true, ne_eq, ite_true, ite_false]]; exact hD) hS dX5_order_122
          · skip
            exact m_vret () hx hb hr hlocks trivial (by rw [show (gOrder z nv nj) = (zA z) from by (show gOrder z nv nj = _); unfold gOrder; simp only [eq_false c_1, eq_false (Ne.symm c_1), eq_false c_4, eq_false (Ne.symm c_4), if_true, if_false, and_true, true_and, and_false, false_and, or_true, true_or, or_false, false_or, not_true_eq_false, not_false_eq_true, ne_eq, ite_true, ite_false]]; exact hP) (by rw [show (gOrder z nv nj) = (zA z) from by (show gOrder z nv nj = _); unfold gOrder; simp only [eq_false c_1, eq_false (Ne.symm c_1), eq_false c_4, eq_false (Ne.symm c_4), if_true, if_false, and_true, true_and, and_false, false_and, or_true, true_or, or_false, false_or, not_true_eq_false, not_false_eq_true, ne_eq, ite_true, ite_false]]; exact hD) hS dX5_order_99
        · skip
          have hlt38 : i38 < (oN z) := Nat.lt_of_not_le (fun q => c_2 ((nI_leI (a := (oN z)) (b := i38) (by omega) (by omega)).mpr q))
          refine lv_aload_n hx hb dX5_order_44 rfl (lv_at hl 4 rfl) ?_
          refine va_get (D := G) (ci := 5) (v := .int (kMfail (itO (oS z) i38))) (C := RX5) (T := TX5) (N := 15) hx hb hts in_X5_order_X5 hown hK.1 hP 0 rfl rfl 11 (by decide) (hts _ lk_X5_order_2) (fun _ h9 => h9) rfl dX5_order_45 ?_
          refine lv_bipush (v := (-9)) hx hb dX5_order_48 (by decide) ?_
          refine lv_icmp_ne (tgt := 90) hx hb dX5_order_50 (by decide) (fun c_7 => ?_) (fun c_7 => ?_)
          · skip
            have q9 : itO (oS z) i38 = zA z := (show zA z = itO (oS z) i38 from or_f c_7 hinv).symm
            rw [q9] at hP hD c_7
            have hP : va_P G vwCl ((mdT cI q (zA z))) H := hP
            have hD : va_D A ((mdT cI q (zA z))) := hD
            refine lv_aload_n hx hb dX5_order_90 rfl (lv_at hl 4 rfl) ?_
            refine va_get (D := G) (ci := 5) (v := .int (kMfail (zA z))) (C := RX5) (T := TX5) (N := 15) hx hb hts in_X5_order_X5 hown hK.1 hP 0 rfl rfl 11 (by decide) (hts _ lk_X5_order_2) (fun _ h9 => h9) rfl dX5_order_91 ?_
            refine lv_bipush (v := (-9)) hx hb dX5_order_94 (by decide) ?_
            refine lv_icmp_eq (tgt := 100) hx hb dX5_order_96 (by decide) (fun c_8 => ?_) (fun c_8 => ?_)
            · skip
              exact absurd c_8 c_7
            · skip
              exact m_vret () hx hb hr hlocks trivial (by rw [show (gOrder z nv nj) = (zA z) from by (show gOrder z nv nj = _); unfold gOrder; simp only [eq_false c_1, eq_false (Ne.symm c_1), eq_false c_7, eq_false (Ne.symm c_7), if_true, if_false, and_true, true_and, and_false, false_and, or_true, true_or, or_false, false_or, not_true_eq_false, not_false_eq_true, ne_eq, ite_true, ite_false]]; exact hP) (by rw [show (gOrder z nv nj) = (zA z) from by (show gOrder z nv nj = _); unfold gOrder; simp only [eq_false c_1, eq_false (Ne.symm c_1), eq_false c_7, eq_false (Ne.symm c_7), if_true, if_false, and_true, true_and, and_false, false_and, or_true, true_or, or_false, false_or, not_true_eq_false, not_false_eq_true, ne_eq, ite_true, ite_false]]; exact hD) hS dX5_order_99
          · skip
            refine lv_aload_n hx hb dX5_order_53 rfl (lv_at hl 4 rfl) ?_
            refine mcV (rest := []) (wr := []) ⟨hx, hb, hml, hown, hts⟩ (c_X5_skips l G cI cQ q (itO (oS z) i38) (mT_itO hT2 _) _) (cwV 0 hts gX5_order_X5_skips rfl rfl rfl cd_X5_skips ⟨Nat.le_of_ble_eq_true rfl, Nat.le_of_ble_eq_true rfl⟩) hK hP hD hS hA [0, 1, 2, 3, 4, 5, 6] [] rfl rfl (by decide) (by decide) (by decide) 0 rfl rfl rfl rfl hl.1 rfl (Nat.le_of_ble_eq_true rfl) dX5_order_54 ⟨Nat.zero_le _, Nat.zero_le _⟩ (fun r _ H locs hr9 hP hD hS => ?_)
            subst hr9
            have hP : va_P G vwCl ((mdT cI q (uMat (itO (oS z) i38) (kMat (itO (oS z) i38) + sk (itO (oS z) i38))))) H := hP
            have hD : va_D A ((mdT cI q (uMat (itO (oS z) i38) (kMat (itO (oS z) i38) + sk (itO (oS z) i38))))) := hD
            refine lv_istore (lv' := [(5, .int (nI (sk (itO (oS z) i38)))), (4, .int (nI i38)), (3, .int (numOf (rLook z))), (2, .int (rLook z)), (1, .int (nI (kMat z))), (0, .ref (q 0))]) hx hb dX5_order_57 hl (by decide) rfl (fun ls hl => ?_)
            refine lv_iload hx hb dX5_order_59 (lv_at hl 1 rfl) ?_
            refine lv_if_le (tgt := 78) hx hb dX5_order_61 (by decide) (fun c_9 => ?_) (fun c_9 => ?_)
            · skip
              refine lv_aload_n hx hb dX5_order_78 rfl (lv_at hl 5 rfl) ?_
              refine lv_iload hx hb dX5_order_79 (lv_at hl 1 rfl) ?_
              refine mcVv (rest := []) (wr := []) ⟨hx, hb, hml, hown, hts⟩ (c_X5_reads l G cI cQ q (uMat (itO (oS z) i38) (kMat (itO (oS z) i38) + sk (itO (oS z) i38))) (mT_skip (mT_itO hT2 _)) i38 (by omega) _) (cwV 1 hts gX5_order_X5_reads rfl rfl rfl cd_X5_reads ⟨Nat.le_of_ble_eq_true rfl, Nat.le_of_ble_eq_true rfl⟩) hK hP hD hS hA [0, 1, 2, 3, 4, 5, 6] [] rfl rfl (by decide) (by decide) (by decide) 0 rfl rfl rfl rfl hl.1 rfl (Nat.le_of_ble_eq_true rfl) dX5_order_81 ⟨Nat.zero_le _, Nat.zero_le _⟩ (fun _ H locs _ hP hD hS => ?_)
              have hP : va_P G vwCl ((mdT cI q (gRead (uMat (itO (oS z) i38) (kMat (itO (oS z) i38) + sk (itO (oS z) i38))) i38))) H := hP
              have hD : va_D A ((mdT cI q (gRead (uMat (itO (oS z) i38) (kMat (itO (oS z) i38) + sk (itO (oS z) i38))) i38))) := hD
              refine lv_iinc (v := (nI (i38 + 1))) (lv' := [(4, .int (nI (i38 + 1))), (5, .int (nI (sk (itO (oS z) i38)))), (3, .int (numOf (rLook z))), (2, .int (rLook z)), (1, .int (nI (kMat z))), (0, .ref (q 0))]) hx hb dX5_order_84 hl (k := 1) rfl (nI_1 i38) (by decide) rfl (fun ls hl => ?_)
              refine lv_goto (tgt := 38) hx hb dX5_order_87 (by decide) ?_
              have e_10 : (itO (oS z) (i38 + 1)) = (gRead (uMat (itO (oS z) i38) (kMat (itO (oS z) i38) + sk (itO (oS z) i38))) i38) := by rfl
              exact ih38 (i38 + 1) (by omega) (by omega) (by omega) (or_go hlt38 c_7 (fun h => by have h9 := (nI_leI (a := i38) (b := 0) (by omega) (by omega)).mp c_9; omega) hinv) _ _ (by rw [e_10]; exact hP) (by rw [e_10]; exact hD) hS ls (by exact lv_sub hl [0, 2, 3, 4, 5] rfl)
            · skip
              refine lv_iload hx hb dX5_order_64 (lv_at hl 0 rfl) ?_
              refine lv_if_ne (tgt := 78) hx hb dX5_order_66 (by decide) (fun c_11 => ?_) (fun c_11 => ?_)
              · skip
                refine lv_aload_n hx hb dX5_order_78 rfl (lv_at hl 5 rfl) ?_
                refine lv_iload hx hb dX5_order_79 (lv_at hl 1 rfl) ?_
                refine mcVv (rest := []) (wr := []) ⟨hx, hb, hml, hown, hts⟩ (c_X5_reads l G cI cQ q (uMat (itO (oS z) i38) (kMat (itO (oS z) i38) + sk (itO (oS z) i38))) (mT_skip (mT_itO hT2 _)) i38 (by omega) _) (cwV 1 hts gX5_order_X5_reads rfl rfl rfl cd_X5_reads ⟨Nat.le_of_ble_eq_true rfl, Nat.le_of_ble_eq_true rfl⟩) hK hP hD hS hA [0, 1, 2, 3, 4, 5, 6] [] rfl rfl (by decide) (by decide) (by decide) 0 rfl rfl rfl rfl hl.1 rfl (Nat.le_of_ble_eq_true rfl) dX5_order_81 ⟨Nat.zero_le _, Nat.zero_le _⟩ (fun _ H locs _ hP hD hS => ?_)
                have hP : va_P G vwCl ((mdT cI q (gRead (uMat (itO (oS z) i38) (kMat (itO (oS z) i38) + sk (itO (oS z) i38))) i38))) H := hP
                have hD : va_D A ((mdT cI q (gRead (uMat (itO (oS z) i38) (kMat (itO (oS z) i38) + sk (itO (oS z) i38))) i38))) := hD
                refine lv_iinc (v := (nI (i38 + 1))) (lv' := [(4, .int (nI (i38 + 1))), (5, .int (nI (sk (itO (oS z) i38)))), (3, .int (numOf (rLook z))), (2, .int (rLook z)), (1, .int (nI (kMat z))), (0, .ref (q 0))]) hx hb dX5_order_84 hl (k := 1) rfl (nI_1 i38) (by decide) rfl (fun ls hl => ?_)
                refine lv_goto (tgt := 38) hx hb dX5_order_87 (by decide) ?_
                have e_12 : (itO (oS z) (i38 + 1)) = (gRead (uMat (itO (oS z) i38) (kMat (itO (oS z) i38) + sk (itO (oS z) i38))) i38) := by rfl
                exact ih38 (i38 + 1) (by omega) (by omega) (by omega) (or_go hlt38 c_7 (fun h => c_11 (by rw [h.2]; rfl)) hinv) _ _ (by rw [e_12]; exact hP) (by rw [e_12]; exact hD) hS ls (by exact lv_sub hl [0, 2, 3, 4, 5] rfl)
              · skip
                refine lv_aload_n hx hb dX5_order_69 rfl (lv_at hl 5 rfl) ?_
                refine lv_aload_n hx hb dX5_order_70 rfl (lv_at hl 5 rfl) ?_
                refine va_get (D := G) (ci := 5) (v := .int (nI (kMat (itO (oS z) i38) + sk (itO (oS z) i38)))) (C := RX5) (T := TX5) (N := 15) hx hb hts in_X5_order_X5 hown hK.1 hP 0 rfl rfl 10 (by decide) (hts _ lk_X5_order_1) (fun _ h9 => h9) rfl dX5_order_71 ?_
                refine va_put (D := G) (ci := 5) (v := .int (nI (kMat (itO (oS z) i38) + sk (itO (oS z) i38)))) (ty := .int) (C := RX5) (T := TX5) (N := 15) hx hb hts in_X5_order_X5 tyX5 tyX5_ok nmX5 hown hK.1 hP hD hS 0 rfl rfl 11 (by decide) (hts _ lk_X5_order_2) (fun _ h9 => h9) rfl (by decide +kernel) rfl rfl (Nat.le_of_ble_eq_true rfl) dX5_order_74 (fun H locs hP hD hS => ?_)
                have hP : va_P G vwCl ((mdT cI q (uMfail (uMat (itO (oS z) i38) (kMat (itO (oS z) i38) + sk (itO (oS z) i38))) (nI (kMat (itO (oS z) i38) + sk (itO (oS z) i38)))))) H := hP
                have hD : va_D A ((mdT cI q (uMfail (uMat (itO (oS z) i38) (kMat (itO (oS z) i38) + sk (itO (oS z) i38))) (nI (kMat (itO (oS z) i38) + sk (itO (oS z) i38)))))) := hD
                exact m_vret () hx hb hr hlocks trivial (by rw [show (gOrder z nv nj) = (uMfail (uMat (itO (oS z) i38) (kMat (itO (oS z) i38) + sk (itO (oS z) i38))) (nI (kMat (itO (oS z) i38) + sk (itO (oS z) i38)))) from by (have h9 : zA z = _ := or_r hlt38 c_7 ⟨Nat.pos_of_ne_zero (fun h => c_9 (by rw [h]; decide)), sk_z (mT_itO hT2 i38) c_11⟩ hinv); (show gOrder z nv nj = _); unfold gOrder; rw [if_neg c_1, h9, if_neg (nI_ne9 (mT_b (mT_skip (mT_itO hT2 i38))))]]; exact hP) (by rw [show (gOrder z nv nj) = (uMfail (uMat (itO (oS z) i38) (kMat (itO (oS z) i38) + sk (itO (oS z) i38))) (nI (kMat (itO (oS z) i38) + sk (itO (oS z) i38)))) from by (have h9 : zA z = _ := or_r hlt38 c_7 ⟨Nat.pos_of_ne_zero (fun h => c_9 (by rw [h]; decide)), sk_z (mT_itO hT2 i38) c_11⟩ hinv); (show gOrder z nv nj = _); unfold gOrder; rw [if_neg c_1, h9, if_neg (nI_ne9 (mT_b (mT_skip (mT_itO hT2 i38))))]]; exact hD) hS dX5_order_77
    have e_13 : (nI 0) = 0 := by first | rfl | decide
    have e_14 : (itO (oS z) 0) = (uMat z ((kMat z) + 1)) := by rfl
    exact L38 ((oN z) + 1) 0 (by omega) (by omega) (by omega) (by rfl) _ _ (by rw [e_14]; exact hP) (by rw [e_14]; exact hD) hS ls (by rw [e_13]; exact lv_sub hl [0, 1, 2, 3, 4] rfl)
  · skip
    refine lv_aload_n hx hb dX5_order_19 rfl (lv_at hl 3 rfl) ?_
    refine lv_iload_n hx hb dX5_order_20 rfl (lv_at hl 2 rfl) ?_
    refine va_put (D := G) (ci := 5) (v := .int (nI (kMat z))) (ty := .int) (C := RX5) (T := TX5) (N := 15) hx hb hts in_X5_order_X5 tyX5 tyX5_ok nmX5 hown hK.1 hP hD hS 0 rfl rfl 11 (by decide) (hts _ lk_X5_order_2) (fun _ h9 => h9) rfl (by decide +kernel) rfl rfl (Nat.le_of_ble_eq_true rfl) dX5_order_21 (fun H locs hP hD hS => ?_)
    have hP : va_P G vwCl ((mdT cI q (uMfail z (nI (kMat z))))) H := hP
    have hD : va_D A ((mdT cI q (uMfail z (nI (kMat z))))) := hD
    exact m_vret () hx hb hr hlocks trivial (by rw [show (gOrder z nv nj) = (uMfail z (nI (kMat z))) from by (show gOrder z nv nj = _); unfold gOrder; simp only [eq_true c_1, eq_true (Eq.symm c_1), if_true, if_false, and_true, true_and, and_false, false_and, or_true, true_or, or_false, false_or, not_true_eq_false, not_false_eq_true, ne_eq, ite_true, ite_false]]; exact hP) (by rw [show (gOrder z nv nj) = (uMfail z (nI (kMat z))) from by (show gOrder z nv nj = _); unfold gOrder; simp only [eq_true c_1, eq_true (Eq.symm c_1), if_true, if_false, and_true, true_and, and_false, false_and, or_true, true_or, or_false, false_or, not_true_eq_false, not_false_eq_true, ne_eq, ite_true, ite_false]]; exact hD) hS dX5_order_24
theorem cd_X5_order : yX5_order.cls = RX5 ∧ yX5_order.cls ≠ "java/lang/invoke/MethodHandle" ∧ yX5_order.cls ≠ "java/lang/invoke/VarHandle" ∧ (parseMethodDescriptor yX5_order.desc).map (fun d => d.parameters.length) = some 0 := by decide +kernel
