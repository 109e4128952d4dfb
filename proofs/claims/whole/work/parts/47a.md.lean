theorem c_X5_ofS (l : Launch) (G : va_G) (cI cQ : ClassId) (q : Nat → Nat) (z : MS) (nv nj : Nat) (s : Nat → Int32) (hs : kMs z = s) (hm : MI s nv nj) (p0 p1 : Int32) (hp0 : vp_in p0 24) (hp1 : vp_in p1 4) : Met l yX5_of wsX5_of ({ frames := 0, cells := 0, slots := 0, locals := 0 } : Room) (pPc G cI cQ [.ref (q 0), .int p0, .int p1] (mdT cI q z)) (vp_Si (fun r => r = mOf s p0 p1)) 0 0 (fun _ => False) := by
  subst hs
  exact c_X5_of l G cI cQ q z nv nj hm p0 p1 hp0 hp1
-- X5_loadsMove
theorem lk_X5_loadsMove_1 : Cond.fieldLink RX5 25 "EvenLoadsModel" "loads" "[I" ∈ wsX5_loadsMove := List.mem_of_getElem? (i := 1) (by decide +kernel)
theorem in_X5_loadsMove_X5 : ∀ w ∈ wsX50, w ∈ wsX5_loadsMove := by decide +kernel
set_option maxHeartbeats 4000000 in
set_option maxRecDepth 100000 in
theorem c_X5_loadsMove (l : Launch) (G : va_G) (cI cQ : ClassId) (q : Nat → Nat) (z : MS) (nv nj : Nat) (hm : MI (kMs z) nv nj) (p0 : Int32) (p1 : Int32) (p2 : Int32) (hp0 : vp_in p0 24) (hp1 : vp_in p1 6) (hp2 : vp_in p2 6) (sz0 : Nat) : Met l yX5_loadsMove wsX5_loadsMove ({ frames := 1, cells := 0, slots := 0, locals := 22 } : Room) (mPc G cI cQ [.ref (q 0), .int p0, .int p1, .int p2] ((mdT cI q z)) sz0) (va_Qv (fun (_ : Unit) => True) (mB G (va_A ((mdT cI q z)) sz0) (fun _ => (mdT cI q (uMloads z (lsMv (kMs z) p0 p1 p2 (kMloads z)))))) (va_A ((mdT cI q z)) sz0)) 0 0 (va_A ((mdT cI q z)) sz0) := by
  refine mm_ofv (cc := cX5_loadsMove) (maxL := 4) (ret := none) (own := RX5) (by decide) rfl rfl (Nat.le_of_ble_eq_true rfl) rfl ?_
  intro p e s m below meth cd ls A hx hb hr hts hown hlocks hml hA hK hP hD hS hl
  refine lv_aload_n hx hb dX5_loadsMove_0 rfl (lv_at hl 0 rfl) ?_
  refine va_get (D := G) (ci := 5) (v := .ref (q 6)) (C := RX5) (T := TX5) (N := 15) hx hb hts in_X5_loadsMove_X5 hown hK.1 hP 0 rfl rfl 13 (by decide) (hts _ lk_X5_loadsMove_1) (fun _ h9 => h9) rfl dX5_loadsMove_1 ?_
  refine lv_iload_n hx hb dX5_loadsMove_4 rfl (lv_at hl 2 rfl) ?_
  refine lv_dup2_11 hx hb dX5_loadsMove_5 rfl rfl ?_
  refine iald_n hx hb hK hP 6 rfl p1.toNatClampNeg (in_eq hp1 (by decide)) (in_lt hp1) (by decide) dX5_loadsMove_6 ?_
  refine lv_aload_n hx hb dX5_loadsMove_7 rfl (lv_at hl 0 rfl) ?_
  refine lv_iload_n hx hb dX5_loadsMove_8 rfl (lv_at hl 1 rfl) ?_
  refine lv_iconst (v := 0) hx hb dX5_loadsMove_9 (by decide) ?_
  refine pcV (rest := [.int ((kMloads z) p1.toNatClampNeg), .int p1, .ref (q 6)]) ⟨hx, hb, hml, hown, hts⟩ (c_X5_of l G cI cQ q z nv nj hm p0 0 hp0 (vp_in_nI (n := 0) (N := 4) (by decide) (by decide))) (cwV 2 hts gX5_loadsMove_X5_of rfl rfl rfl cd_X5_of ⟨Nat.le_of_ble_eq_true rfl, Nat.le_of_ble_eq_true rfl⟩) hK hP [0, 1, 2, 3, 4, 5, 6] rfl 0 rfl rfl rfl rfl hl.1 rfl (Nat.le_of_ble_eq_true rfl) dX5_loadsMove_10 ⟨Nat.zero_le _, Nat.zero_le _⟩ ?_
  refine lv_isub hx hb dX5_loadsMove_13 ?_
  refine iast_n hx hb hK hP hD hS 6 rfl p1.toNatClampNeg (in_eq hp1 (by decide)) (in_lt hp1) (by decide) dX5_loadsMove_14 (fun H locs hP hD hS => ?_)
  have hP : va_P G vwCl ((mdT cI q (uMloads z (upd (kMloads z) p1.toNatClampNeg (((kMloads z) p1.toNatClampNeg) - (mOf (kMs z) p0 0)))))) H := hP
  have hD : va_D A ((mdT cI q (uMloads z (upd (kMloads z) p1.toNatClampNeg (((kMloads z) p1.toNatClampNeg) - (mOf (kMs z) p0 0)))))) := hD
  refine lv_aload_n hx hb dX5_loadsMove_15 rfl (lv_at hl 0 rfl) ?_
  refine va_get (D := G) (ci := 5) (v := .ref (q 6)) (C := RX5) (T := TX5) (N := 15) hx hb hts in_X5_loadsMove_X5 hown hK.1 hP 0 rfl rfl 13 (by decide) (hts _ lk_X5_loadsMove_1) (fun _ h9 => h9) rfl dX5_loadsMove_16 ?_
  refine lv_iload_n hx hb dX5_loadsMove_19 rfl (lv_at hl 3 rfl) ?_
  refine lv_dup2_11 hx hb dX5_loadsMove_20 rfl rfl ?_
  refine iald_n hx hb hK hP 6 rfl p2.toNatClampNeg (in_eq hp2 (by decide)) (in_lt hp2) (by decide) dX5_loadsMove_21 ?_
  refine lv_aload_n hx hb dX5_loadsMove_22 rfl (lv_at hl 0 rfl) ?_
  refine lv_iload_n hx hb dX5_loadsMove_23 rfl (lv_at hl 1 rfl) ?_
  refine lv_iconst (v := 0) hx hb dX5_loadsMove_24 (by decide) ?_
  refine pcV (rest := [.int ((upd (kMloads z) p1.toNatClampNeg (((kMloads z) p1.toNatClampNeg) - (mOf (kMs z) p0 0))) p2.toNatClampNeg), .int p2, .ref (q 6)]) ⟨hx, hb, hml, hown, hts⟩ (c_X5_of l G cI cQ q (uMloads z (upd (kMloads z) p1.toNatClampNeg (((kMloads z) p1.toNatClampNeg) - (mOf (kMs z) p0 0)))) nv nj hm p0 0 hp0 (vp_in_nI (n := 0) (N := 4) (by decide) (by decide))) (cwV 2 hts gX5_loadsMove_X5_of rfl rfl rfl cd_X5_of ⟨Nat.le_of_ble_eq_true rfl, Nat.le_of_ble_eq_true rfl⟩) hK hP [0, 1, 2, 3, 4, 5, 6] rfl 0 rfl rfl rfl rfl hl.1 rfl (Nat.le_of_ble_eq_true rfl) dX5_loadsMove_25 ⟨Nat.zero_le _, Nat.zero_le _⟩ ?_
  refine lv_iadd hx hb dX5_loadsMove_28 ?_
  refine iast_n hx hb hK hP hD hS 6 rfl p2.toNatClampNeg (in_eq hp2 (by decide)) (in_lt hp2) (by decide) dX5_loadsMove_29 (fun H locs hP hD hS => ?_)
  have hP : va_P G vwCl ((mdT cI q (uMloads z (upd (upd (kMloads z) p1.toNatClampNeg (((kMloads z) p1.toNatClampNeg) - (mOf (kMs z) p0 0))) p2.toNatClampNeg (((upd (kMloads z) p1.toNatClampNeg (((kMloads z) p1.toNatClampNeg) - (mOf (kMs z) p0 0))) p2.toNatClampNeg) + (mOf (kMs z) p0 0)))))) H := hP
  have hD : va_D A ((mdT cI q (uMloads z (upd (upd (kMloads z) p1.toNatClampNeg (((kMloads z) p1.toNatClampNeg) - (mOf (kMs z) p0 0))) p2.toNatClampNeg (((upd (kMloads z) p1.toNatClampNeg (((kMloads z) p1.toNatClampNeg) - (mOf (kMs z) p0 0))) p2.toNatClampNeg) + (mOf (kMs z) p0 0)))))) := hD
  exact m_vret () hx hb hr hlocks trivial (by rw [show (uMloads z (lsMv (kMs z) p0 p1 p2 (kMloads z))) = (uMloads z (upd (upd (kMloads z) p1.toNatClampNeg (((kMloads z) p1.toNatClampNeg) - (mOf (kMs z) p0 0))) p2.toNatClampNeg (((upd (kMloads z) p1.toNatClampNeg (((kMloads z) p1.toNatClampNeg) - (mOf (kMs z) p0 0))) p2.toNatClampNeg) + (mOf (kMs z) p0 0)))) from by first | rfl | (simp only [lsMv, if_true, if_false, and_true, true_and, and_false, false_and, or_true, true_or, or_false, false_or, not_true_eq_false, not_false_eq_true, ne_eq, ite_true, ite_false]; done) | (simp only [lsMv, if_true, if_false, and_true, true_and, and_false, false_and, or_true, true_or, or_false, false_or, not_true_eq_false, not_false_eq_true, ne_eq, ite_true, ite_false]; rfl)]; exact hP) (by rw [show (uMloads z (lsMv (kMs z) p0 p1 p2 (kMloads z))) = (uMloads z (upd (upd (kMloads z) p1.toNatClampNeg (((kMloads z) p1.toNatClampNeg) - (mOf (kMs z) p0 0))) p2.toNatClampNeg (((upd (kMloads z) p1.toNatClampNeg (((kMloads z) p1.toNatClampNeg) - (mOf (kMs z) p0 0))) p2.toNatClampNeg) + (mOf (kMs z) p0 0)))) from by first | rfl | (simp only [lsMv, if_true, if_false, and_true, true_and, and_false, false_and, or_true, true_or, or_false, false_or, not_true_eq_false, not_false_eq_true, ne_eq, ite_true, ite_false]; done) | (simp only [lsMv, if_true, if_false, and_true, true_and, and_false, false_and, or_true, true_or, or_false, false_or, not_true_eq_false, not_false_eq_true, ne_eq, ite_true, ite_false]; rfl)]; exact hD) hS dX5_loadsMove_30
theorem cd_X5_loadsMove : yX5_loadsMove.cls = RX5 ∧ yX5_loadsMove.cls ≠ "java/lang/invoke/MethodHandle" ∧ yX5_loadsMove.cls ≠ "java/lang/invoke/VarHandle" ∧ (parseMethodDescriptor yX5_loadsMove.desc).map (fun d => d.parameters.length) = some 3 := by decide +kernel
-- X5_areBelow
theorem lk_X5_areBelow_1 : Cond.fieldLink RX5 25 "EvenLoadsModel" "loads" "[I" ∈ wsX5_areBelow := List.mem_of_getElem? (i := 1) (by decide +kernel)
theorem in_X5_areBelow_X5 : ∀ w ∈ wsX50, w ∈ wsX5_areBelow := by decide +kernel
set_option maxHeartbeats 4000000 in
set_option maxRecDepth 100000 in
theorem c_X5_areBelow (l : Launch) (G : va_G) (cI cQ : ClassId) (q : Nat → Nat) (z : MS) (p0 : Int32) : Met l yX5_areBelow wsX5_areBelow ({ frames := 0, cells := 0, slots := 0, locals := 0 } : Room) (pPc G cI cQ [.ref (q 0), .int p0] ((mdT cI q z))) (vp_Si (fun r => r = bI (pBel p0 (kMloads z)))) 0 0 (fun _ => False) := by
  refine pm_of (cc := cX5_areBelow) (maxL := 4) (ret := (some .boolean)) (own := RX5) (by decide) rfl rfl (Nat.le_of_ble_eq_true rfl) rfl ?_
  intro p e s m below meth cd ls hx hb hr hts hown hlocks hml hK hP hl
  refine lv_iconst (v := 1) hx hb dX5_areBelow_0 (by decide) ?_
  refine lv_istore_n (lv' := [(2, .int 1), (0, .ref (q 0)), (1, .int p0)]) hx hb dX5_areBelow_1 rfl hl (by decide) rfl (fun ls hl => ?_)
  refine lv_iconst (v := 0) hx hb dX5_areBelow_2 (by decide) ?_
  refine lv_istore_n (lv' := [(3, .int 0), (2, .int 1), (0, .ref (q 0)), (1, .int p0)]) hx hb dX5_areBelow_3 rfl hl (by decide) rfl (fun ls hl => ?_)
  have L4 : ∀ (n4 i4 : Nat), 0 ≤ i4 → i4 ≤ 6 → 6 + 1 ≤ i4 + n4 → ∀ (ls : Array Slot), lv_has ls 4 [(3, .int (nI i4)), (2, .int (blF p0 (kMloads z) i4)), (0, .ref (q 0)), (1, .int p0)] → W p l e ({ frames := 0, cells := 0, slots := 0, locals := 0 } : Room) s m ([.ref (q 0), .int p0] : List Value).toArray below meth cd s.heap [] 0 0 (MQ below (vp_Si (fun r => r = bI (pBel p0 (kMloads z)))) ([.ref (q 0), .int p0] : List Value).toArray s 0 0 (fun _ => False)) (F0 m 4 ls []) := by
    intro n4
    induction n4 with
    | zero => intro i4 h0 h1 h2; exact absurd h2 (by omega)
    | succ n4 ih4 =>
      intro i4 hlo4 hle4 hin4 ls hl
      refine lv_iload_n hx hb dX5_areBelow_4 rfl (lv_at hl 0 rfl) ?_
      refine lv_bipush (v := 6) hx hb dX5_areBelow_5 (by decide) ?_
      refine lv_icmp_ge (tgt := 36) hx hb dX5_areBelow_7 (by decide) (fun c_1 => ?_) (fun c_1 => ?_)
      · skip
        have q_2 : 6 = i4 := by have h9 := (nI_leI (a := 6) (b := i4) (by omega) (by omega)).mp c_1; omega
        subst q_2
        refine lv_iload_n hx hb dX5_areBelow_36 rfl (lv_at hl 1 rfl) ?_
        refine lv_cvt (y := bI (pBel p0 (kMloads z))) (bl_bI p0 (kMloads z) 6) ?_
        exact p_ret hx hb hr hlocks bI_nar (by first | rfl | (simp only [blF, if_true, if_false, and_true, true_and, and_false, false_and, or_true, true_or, or_false, false_or, not_true_eq_false, not_false_eq_true, ne_eq, ite_true, ite_false]; done) | (simp only [blF, if_true, if_false, and_true, true_and, and_false, false_and, or_true, true_or, or_false, false_or, not_true_eq_false, not_false_eq_true, ne_eq, ite_true, ite_false]; rfl)) dX5_areBelow_37
      · skip
        have hlt4 : i4 < 6 := Nat.lt_of_not_le (fun q => c_1 ((nI_leI (a := 6) (b := i4) (by omega) (by omega)).mpr q))
        refine lv_iload_n hx hb dX5_areBelow_10 rfl (lv_at hl 1 rfl) ?_
        refine lv_if_eq (tgt := 28) hx hb dX5_areBelow_11 (by decide) (fun c_3 => ?_) (fun c_3 => ?_)
        · skip
          refine lv_iconst (v := 0) hx hb dX5_areBelow_28 (by decide) ?_
          refine lv_istore_n (lv' := [(2, .int 0), (3, .int (nI i4)), (0, .ref (q 0)), (1, .int p0)]) hx hb dX5_areBelow_29 rfl hl (by decide) rfl (fun ls hl => ?_)
          refine lv_iinc (v := (nI (i4 + 1))) (lv' := [(3, .int (nI (i4 + 1))), (2, .int 0), (0, .ref (q 0)), (1, .int p0)]) hx hb dX5_areBelow_30 hl (k := 1) rfl (nI_1 i4) (by decide) rfl (fun ls hl => ?_)
          refine lv_goto (tgt := 4) hx hb dX5_areBelow_33 (by decide) ?_
          have e_4 : (blF p0 (kMloads z) (i4 + 1)) = 0 := by first | rfl | (simp only [blF, eq_true c_3, eq_true (Eq.symm c_3), if_true, if_false, and_true, true_and, and_false, false_and, or_true, true_or, or_false, false_or, not_true_eq_false, not_false_eq_true, ne_eq, ite_true, ite_false]; done) | (simp only [blF, eq_true c_3, eq_true (Eq.symm c_3), if_true, if_false, and_true, true_and, and_false, false_and, or_true, true_or, or_false, false_or, not_true_eq_false, not_false_eq_true, ne_eq, ite_true, ite_false]; rfl)
          exact ih4 (i4 + 1) (by omega) (by omega) (by omega) ls (by rw [e_4]; exact lv_sub hl [0, 1, 2, 3] rfl)
        · skip
          refine lv_aload_n hx hb dX5_areBelow_14 rfl (lv_at hl 2 rfl) ?_
          refine va_get (D := G) (ci := 5) (v := .ref (q 6)) (C := RX5) (T := TX5) (N := 15) hx hb hts in_X5_areBelow_X5 hown hK.1 hP 0 rfl rfl 13 (by decide) (hts _ lk_X5_areBelow_1) (fun _ h9 => h9) rfl dX5_areBelow_15 ?_
          refine lv_iload_n hx hb dX5_areBelow_18 rfl (lv_at hl 0 rfl) ?_
          refine iald_n hx hb hK hP 6 rfl i4 rfl (by omega) (by decide) dX5_areBelow_19 ?_
          refine lv_iload_n hx hb dX5_areBelow_20 rfl (lv_at hl 3 rfl) ?_
          refine lv_icmp_gt (tgt := 28) hx hb dX5_areBelow_21 (by decide) (fun c_5 => ?_) (fun c_5 => ?_)
          · skip
            refine lv_iconst (v := 0) hx hb dX5_areBelow_28 (by decide) ?_
            refine lv_istore_n (lv' := [(2, .int 0), (3, .int (nI i4)), (0, .ref (q 0)), (1, .int p0)]) hx hb dX5_areBelow_29 rfl hl (by decide) rfl (fun ls hl => ?_)
            refine lv_iinc (v := (nI (i4 + 1))) (lv' := [(3, .int (nI (i4 + 1))), (2, .int 0), (0, .ref (q 0)), (1, .int p0)]) hx hb dX5_areBelow_30 hl (k := 1) rfl (nI_1 i4) (by decide) rfl (fun ls hl => ?_)
            refine lv_goto (tgt := 4) hx hb dX5_areBelow_33 (by decide) ?_
            have e_6 : (blF p0 (kMloads z) (i4 + 1)) = 0 := by first | rfl | (simp only [blF, eq_false c_3, eq_false (Ne.symm c_3), eq_true c_5, eq_false (Int32.not_le.mpr c_5), if_true, if_false, and_true, true_and, and_false, false_and, or_true, true_or, or_false, false_or, not_true_eq_false, not_false_eq_true, ne_eq, ite_true, ite_false]; done) | (simp only [blF, eq_false c_3, eq_false (Ne.symm c_3), eq_true c_5, eq_false (Int32.not_le.mpr c_5), if_true, if_false, and_true, true_and, and_false, false_and, or_true, true_or, or_false, false_or, not_true_eq_false, not_false_eq_true, ne_eq, ite_true, ite_false]; rfl)
            exact ih4 (i4 + 1) (by omega) (by omega) (by omega) ls (by rw [e_6]; exact lv_sub hl [0, 1, 2, 3] rfl)
          · skip
            refine lv_iconst (v := 1) hx hb dX5_areBelow_24 (by decide) ?_
            refine lv_goto (tgt := 29) hx hb dX5_areBelow_25 (by decide) ?_
            refine lv_istore_n (lv' := [(2, .int 1), (3, .int (nI i4)), (0, .ref (q 0)), (1, .int p0)]) hx hb dX5_areBelow_29 rfl hl (by decide) rfl (fun ls hl => ?_)
            refine lv_iinc (v := (nI (i4 + 1))) (lv' := [(3, .int (nI (i4 + 1))), (2, .int 1), (0, .ref (q 0)), (1, .int p0)]) hx hb dX5_areBelow_30 hl (k := 1) rfl (nI_1 i4) (by decide) rfl (fun ls hl => ?_)
            refine lv_goto (tgt := 4) hx hb dX5_areBelow_33 (by decide) ?_
            have e_7 : (blF p0 (kMloads z) (i4 + 1)) = 1 := by first | rfl | (simp only [blF, eq_false c_3, eq_false (Ne.symm c_3), eq_false c_5, eq_true (Int32.not_lt.mp c_5), if_true, if_false, and_true, true_and, and_false, false_and, or_true, true_or, or_false, false_or, not_true_eq_false, not_false_eq_true, ne_eq, ite_true, ite_false]; done) | (simp only [blF, eq_false c_3, eq_false (Ne.symm c_3), eq_false c_5, eq_true (Int32.not_lt.mp c_5), if_true, if_false, and_true, true_and, and_false, false_and, or_true, true_or, or_false, false_or, not_true_eq_false, not_false_eq_true, ne_eq, ite_true, ite_false]; rfl)
            exact ih4 (i4 + 1) (by omega) (by omega) (by omega) ls (by rw [e_7]; exact lv_sub hl [0, 1, 2, 3] rfl)
  have e_8 : (nI 0) = 0 := by first | rfl | decide
  have e_9 : (blF p0 (kMloads z) 0) = 1 := by first | rfl | (simp only [blF, if_true, if_false, and_true, true_and, and_false, false_and, or_true, true_or, or_false, false_or, not_true_eq_false, not_false_eq_true, ne_eq, ite_true, ite_false]; done) | (simp only [blF, if_true, if_false, and_true, true_and, and_false, false_and, or_true, true_or, or_false, false_or, not_true_eq_false, not_false_eq_true, ne_eq, ite_true, ite_false]; rfl)
  exact L4 (6 + 1) 0 (by omega) (by omega) (by omega) ls (by rw [e_8]; rw [e_9]; exact lv_sub hl [0, 1, 2, 3] rfl)
theorem cd_X5_areBelow : yX5_areBelow.cls = RX5 ∧ yX5_areBelow.cls ≠ "java/lang/invoke/MethodHandle" ∧ yX5_areBelow.cls ≠ "java/lang/invoke/VarHandle" ∧ (parseMethodDescriptor yX5_areBelow.desc).map (fun d => d.parameters.length) = some 1 := by decide +kernel
theorem c_X5_areBelowL (l : Launch) (G : va_G) (cI cQ : ClassId) (q : Nat → Nat) (z : MS) (L : Nat → Int32) (hL : kMloads z = L) (p0 : Int32) : Met l yX5_areBelow wsX5_areBelow ({ frames := 0, cells := 0, slots := 0, locals := 0 } : Room) (pPc G cI cQ [.ref (q 0), .int p0] (mdT cI q z)) (vp_Si (fun r => r = bI (pBel p0 L))) 0 0 (fun _ => False) := by
  subst hL
  exact c_X5_areBelow l G cI cQ q z p0
