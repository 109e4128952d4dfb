-- X3_offer
theorem lk_X3_offer_1 : Cond.fieldLink RX3 9 "EvenLoads$Step" "job" "I" ∈ wsX3_offer := List.mem_of_getElem? (i := 1) (by decide +kernel)
theorem lk_X3_offer_2 : Cond.fieldLink RX3 24 "EvenLoads$Step" "greater" "I" ∈ wsX3_offer := List.mem_of_getElem? (i := 2) (by decide +kernel)
theorem lk_X3_offer_3 : Cond.fieldLink RX3 21 "EvenLoads$Step" "price" "I" ∈ wsX3_offer := List.mem_of_getElem? (i := 3) (by decide +kernel)
theorem lk_X3_offer_4 : Cond.fieldLink RX3 15 "EvenLoads$Step" "goal" "I" ∈ wsX3_offer := List.mem_of_getElem? (i := 4) (by decide +kernel)
theorem lk_X3_offer_5 : Cond.fieldLink RX3 18 "EvenLoads$Step" "other" "I" ∈ wsX3_offer := List.mem_of_getElem? (i := 5) (by decide +kernel)
theorem in_X3_offer_X3 : ∀ w ∈ wsX30, w ∈ wsX3_offer := by decide +kernel
set_option maxHeartbeats 4000000 in
set_option maxRecDepth 100000 in
theorem c_X3_offer (l : Launch) (G : va_G) (cI cQ : ClassId) (a : Nat) (x : SS) (p0 : Int32) (p1 : Int32) (p2 : Int32) (p3 : Int32) (p4 : Int32) (sz0 : Nat) : Met l yX3_offer wsX3_offer ({ frames := 0, cells := 0, slots := 0, locals := 0 } : Room) (mPc G cI cQ [.ref a, .int p0, .int p1, .int p2, .int p3, .int p4] ((stT cI a x)) sz0) (va_Qv (fun (_ : Unit) => True) (mB G (va_A ((stT cI a x)) sz0) (fun _ => (stT cI a (sOffer x p0 p1 p2 p3 p4)))) (va_A ((stT cI a x)) sz0)) 0 0 (va_A ((stT cI a x)) sz0) := by
  refine mm_ofv (cc := cX3_offer) (maxL := 7) (ret := none) (own := RX3) (by decide) rfl rfl (Nat.le_of_ble_eq_true rfl) rfl ?_
  intro p e s m below meth cd ls A hx hb hr hts hown hlocks hml hA hK hP hD hS hl
  refine lv_aload_n hx hb dX3_offer_0 rfl (lv_at hl 0 rfl) ?_
  refine va_get (D := G) (ci := 3) (v := .int (kSjob x)) (C := RX3) (T := TX3) (N := 5) hx hb hts in_X3_offer_X3 hown hK.1 hP 0 rfl rfl 0 (by decide) (hts _ lk_X3_offer_1) (fun _ h9 => h9) rfl dX3_offer_1 ?_
  refine lv_bipush (v := (-9)) hx hb dX3_offer_4 (by decide) ?_
  refine lv_icmp_eq (tgt := 31) hx hb dX3_offer_6 (by decide) (fun c_1 => ?_) (fun c_1 => ?_)
  · skip
    refine lv_iconst (v := 0) hx hb dX3_offer_31 (by decide) ?_
    refine lv_istore (lv' := [(6, .int 0), (0, .ref a), (1, .int p0), (2, .int p1), (3, .int p2), (4, .int p3), (5, .int p4)]) hx hb dX3_offer_32 hl (by decide) rfl (fun ls hl => ?_)
    refine lv_iload hx hb dX3_offer_34 (lv_at hl 6 rfl) ?_
    refine lv_aload_n hx hb dX3_offer_36 rfl (lv_at hl 1 rfl) ?_
    refine va_get (D := G) (ci := 3) (v := .int (kSgreater x)) (C := RX3) (T := TX3) (N := 5) hx hb hts in_X3_offer_X3 hown hK.1 hP 0 rfl rfl 4 (by decide) (hts _ lk_X3_offer_2) (fun _ h9 => h9) rfl dX3_offer_37 ?_
    refine lv_icmp_lt (tgt := 48) hx hb dX3_offer_40 (by decide) (fun c_2 => ?_) (fun c_2 => ?_)
    · skip
      refine lv_aload_n hx hb dX3_offer_48 rfl (lv_at hl 1 rfl) ?_
      refine lv_iload_n hx hb dX3_offer_49 rfl (lv_at hl 2 rfl) ?_
      refine va_put (D := G) (ci := 3) (v := .int p0) (ty := .int) (C := RX3) (T := TX3) (N := 5) hx hb hts in_X3_offer_X3 tyX3 tyX3_ok nmX3 hown hK.1 hP hD hS 0 rfl rfl 0 (by decide) (hts _ lk_X3_offer_1) (fun _ h9 => h9) rfl (by decide +kernel) rfl rfl (Nat.le_of_ble_eq_true rfl) dX3_offer_50 (fun H locs hP hD hS => ?_)
      have hP : va_P G vwCl ((stT cI a (uSjob x p0))) H := hP
      have hD : va_D A ((stT cI a (uSjob x p0))) := hD
      refine lv_aload_n hx hb dX3_offer_53 rfl (lv_at hl 1 rfl) ?_
      refine lv_iload_n hx hb dX3_offer_54 rfl (lv_at hl 3 rfl) ?_
      refine va_put (D := G) (ci := 3) (v := .int p1) (ty := .int) (C := RX3) (T := TX3) (N := 5) hx hb hts in_X3_offer_X3 tyX3 tyX3_ok nmX3 hown hK.1 hP hD hS 0 rfl rfl 1 (by decide) (hts _ lk_X3_offer_4) (fun _ h9 => h9) rfl (by decide +kernel) rfl rfl (Nat.le_of_ble_eq_true rfl) dX3_offer_55 (fun H locs hP hD hS => ?_)
      have hP : va_P G vwCl ((stT cI a (uSgoal (uSjob x p0) p1))) H := hP
      have hD : va_D A ((stT cI a (uSgoal (uSjob x p0) p1))) := hD
      refine lv_aload_n hx hb dX3_offer_58 rfl (lv_at hl 1 rfl) ?_
      refine lv_iload_n hx hb dX3_offer_59 rfl (lv_at hl 4 rfl) ?_
      refine va_put (D := G) (ci := 3) (v := .int p2) (ty := .int) (C := RX3) (T := TX3) (N := 5) hx hb hts in_X3_offer_X3 tyX3 tyX3_ok nmX3 hown hK.1 hP hD hS 0 rfl rfl 2 (by decide) (hts _ lk_X3_offer_5) (fun _ h9 => h9) rfl (by decide +kernel) rfl rfl (Nat.le_of_ble_eq_true rfl) dX3_offer_60 (fun H locs hP hD hS => ?_)
      have hP : va_P G vwCl ((stT cI a (uSother (uSgoal (uSjob x p0) p1) p2))) H := hP
      have hD : va_D A ((stT cI a (uSother (uSgoal (uSjob x p0) p1) p2))) := hD
      refine lv_aload_n hx hb dX3_offer_63 rfl (lv_at hl 1 rfl) ?_
      refine lv_iload hx hb dX3_offer_64 (lv_at hl 5 rfl) ?_
      refine va_put (D := G) (ci := 3) (v := .int p3) (ty := .int) (C := RX3) (T := TX3) (N := 5) hx hb hts in_X3_offer_X3 tyX3 tyX3_ok nmX3 hown hK.1 hP hD hS 0 rfl rfl 3 (by decide) (hts _ lk_X3_offer_3) (fun _ h9 => h9) rfl (by decide +kernel) rfl rfl (Nat.le_of_ble_eq_true rfl) dX3_offer_66 (fun H locs hP hD hS => ?_)
      have hP : va_P G vwCl ((stT cI a (uSprice (uSother (uSgoal (uSjob x p0) p1) p2) p3))) H := hP
      have hD : va_D A ((stT cI a (uSprice (uSother (uSgoal (uSjob x p0) p1) p2) p3))) := hD
      refine lv_aload_n hx hb dX3_offer_69 rfl (lv_at hl 1 rfl) ?_
      refine lv_iload hx hb dX3_offer_70 (lv_at hl 6 rfl) ?_
      refine va_put (D := G) (ci := 3) (v := .int p4) (ty := .int) (C := RX3) (T := TX3) (N := 5) hx hb hts in_X3_offer_X3 tyX3 tyX3_ok nmX3 hown hK.1 hP hD hS 0 rfl rfl 4 (by decide) (hts _ lk_X3_offer_2) (fun _ h9 => h9) rfl (by decide +kernel) rfl rfl (Nat.le_of_ble_eq_true rfl) dX3_offer_72 (fun H locs hP hD hS => ?_)
      have hP : va_P G vwCl ((stT cI a (uSgreater (uSprice (uSother (uSgoal (uSjob x p0) p1) p2) p3) p4))) H := hP
      have hD : va_D A ((stT cI a (uSgreater (uSprice (uSother (uSgoal (uSjob x p0) p1) p2) p3) p4))) := hD
      exact m_vret () hx hb hr hlocks trivial (by rw [show (sOffer x p0 p1 p2 p3 p4) = (uSgreater (uSprice (uSother (uSgoal (uSjob x p0) p1) p2) p3) p4) from by first | rfl | (simp only [sOffer, eq_true c_1, eq_true (Eq.symm c_1), eq_true c_2, eq_false (Int32.not_le.mpr c_2), if_true, if_false, and_true, true_and, and_false, false_and, or_true, true_or, or_false, false_or, not_true_eq_false, not_false_eq_true, ne_eq, ite_true, ite_false]) | (simp only [sOffer, eq_true c_1, eq_true (Eq.symm c_1), eq_true c_2, eq_false (Int32.not_le.mpr c_2), if_true, if_false, and_true, true_and, and_false, false_and, or_true, true_or, or_false, false_or, not_true_eq_false, not_false_eq_true, ne_eq, ite_true, ite_false]; rfl)]; exact hP) (by rw [show (sOffer x p0 p1 p2 p3 p4) = (uSgreater (uSprice (uSother (uSgoal (uSjob x p0) p1) p2) p3) p4) from by first | rfl | (simp only [sOffer, eq_true c_1, eq_true (Eq.symm c_1), eq_true c_2, eq_false (Int32.not_le.mpr c_2), if_true, if_false, and_true, true_and, and_false, false_and, or_true, true_or, or_false, false_or, not_true_eq_false, not_false_eq_true, ne_eq, ite_true, ite_false]) | (simp only [sOffer, eq_true c_1, eq_true (Eq.symm c_1), eq_true c_2, eq_false (Int32.not_le.mpr c_2), if_true, if_false, and_true, true_and, and_false, false_and, or_true, true_or, or_false, false_or, not_true_eq_false, not_false_eq_true, ne_eq, ite_true, ite_false]; rfl)]; exact hD) hS dX3_offer_75
    · skip
      refine lv_iload hx hb dX3_offer_43 (lv_at hl 0 rfl) ?_
      refine lv_if_eq (tgt := 75) hx hb dX3_offer_45 (by decide) (fun c_3 => ?_) (fun c_3 => ?_)
      rotate_left
      · exact absurd c_3 (by decide)
      exact m_vret () hx hb hr hlocks trivial (by rw [show (sOffer x p0 p1 p2 p3 p4) = x from by first | rfl | (simp only [sOffer, eq_true c_1, eq_true (Eq.symm c_1), eq_false c_2, eq_true (Int32.not_lt.mp c_2), if_true, if_false, and_true, true_and, and_false, false_and, or_true, true_or, or_false, false_or, not_true_eq_false, not_false_eq_true, ne_eq, ite_true, ite_false]) | (simp only [sOffer, eq_true c_1, eq_true (Eq.symm c_1), eq_false c_2, eq_true (Int32.not_lt.mp c_2), if_true, if_false, and_true, true_and, and_false, false_and, or_true, true_or, or_false, false_or, not_true_eq_false, not_false_eq_true, ne_eq, ite_true, ite_false]; rfl)]; exact hP) (by rw [show (sOffer x p0 p1 p2 p3 p4) = x from by first | rfl | (simp only [sOffer, eq_true c_1, eq_true (Eq.symm c_1), eq_false c_2, eq_true (Int32.not_lt.mp c_2), if_true, if_false, and_true, true_and, and_false, false_and, or_true, true_or, or_false, false_or, not_true_eq_false, not_false_eq_true, ne_eq, ite_true, ite_false]) | (simp only [sOffer, eq_true c_1, eq_true (Eq.symm c_1), eq_false c_2, eq_true (Int32.not_lt.mp c_2), if_true, if_false, and_true, true_and, and_false, false_and, or_true, true_or, or_false, false_or, not_true_eq_false, not_false_eq_true, ne_eq, ite_true, ite_false]; rfl)]; exact hD) hS dX3_offer_75
  · skip
    refine lv_iload hx hb dX3_offer_9 (lv_at hl 5 rfl) ?_
    refine lv_aload_n hx hb dX3_offer_11 rfl (lv_at hl 0 rfl) ?_
    refine va_get (D := G) (ci := 3) (v := .int (kSgreater x)) (C := RX3) (T := TX3) (N := 5) hx hb hts in_X3_offer_X3 hown hK.1 hP 0 rfl rfl 4 (by decide) (hts _ lk_X3_offer_2) (fun _ h9 => h9) rfl dX3_offer_12 ?_
    refine lv_icmp_ne (tgt := 31) hx hb dX3_offer_15 (by decide) (fun c_4 => ?_) (fun c_4 => ?_)
    · skip
      refine lv_iconst (v := 0) hx hb dX3_offer_31 (by decide) ?_
      refine lv_istore (lv' := [(6, .int 0), (0, .ref a), (1, .int p0), (2, .int p1), (3, .int p2), (4, .int p3), (5, .int p4)]) hx hb dX3_offer_32 hl (by decide) rfl (fun ls hl => ?_)
      refine lv_iload hx hb dX3_offer_34 (lv_at hl 6 rfl) ?_
      refine lv_aload_n hx hb dX3_offer_36 rfl (lv_at hl 1 rfl) ?_
      refine va_get (D := G) (ci := 3) (v := .int (kSgreater x)) (C := RX3) (T := TX3) (N := 5) hx hb hts in_X3_offer_X3 hown hK.1 hP 0 rfl rfl 4 (by decide) (hts _ lk_X3_offer_2) (fun _ h9 => h9) rfl dX3_offer_37 ?_
      refine lv_icmp_lt (tgt := 48) hx hb dX3_offer_40 (by decide) (fun c_5 => ?_) (fun c_5 => ?_)
      · skip
        refine lv_aload_n hx hb dX3_offer_48 rfl (lv_at hl 1 rfl) ?_
        refine lv_iload_n hx hb dX3_offer_49 rfl (lv_at hl 2 rfl) ?_
        refine va_put (D := G) (ci := 3) (v := .int p0) (ty := .int) (C := RX3) (T := TX3) (N := 5) hx hb hts in_X3_offer_X3 tyX3 tyX3_ok nmX3 hown hK.1 hP hD hS 0 rfl rfl 0 (by decide) (hts _ lk_X3_offer_1) (fun _ h9 => h9) rfl (by decide +kernel) rfl rfl (Nat.le_of_ble_eq_true rfl) dX3_offer_50 (fun H locs hP hD hS => ?_)
        have hP : va_P G vwCl ((stT cI a (uSjob x p0))) H := hP
        have hD : va_D A ((stT cI a (uSjob x p0))) := hD
        refine lv_aload_n hx hb dX3_offer_53 rfl (lv_at hl 1 rfl) ?_
        refine lv_iload_n hx hb dX3_offer_54 rfl (lv_at hl 3 rfl) ?_
        refine va_put (D := G) (ci := 3) (v := .int p1) (ty := .int) (C := RX3) (T := TX3) (N := 5) hx hb hts in_X3_offer_X3 tyX3 tyX3_ok nmX3 hown hK.1 hP hD hS 0 rfl rfl 1 (by decide) (hts _ lk_X3_offer_4) (fun _ h9 => h9) rfl (by decide +kernel) rfl rfl (Nat.le_of_ble_eq_true rfl) dX3_offer_55 (fun H locs hP hD hS => ?_)
        have hP : va_P G vwCl ((stT cI a (uSgoal (uSjob x p0) p1))) H := hP
        have hD : va_D A ((stT cI a (uSgoal (uSjob x p0) p1))) := hD
        refine lv_aload_n hx hb dX3_offer_58 rfl (lv_at hl 1 rfl) ?_
        refine lv_iload_n hx hb dX3_offer_59 rfl (lv_at hl 4 rfl) ?_
        refine va_put (D := G) (ci := 3) (v := .int p2) (ty := .int) (C := RX3) (T := TX3) (N := 5) hx hb hts in_X3_offer_X3 tyX3 tyX3_ok nmX3 hown hK.1 hP hD hS 0 rfl rfl 2 (by decide) (hts _ lk_X3_offer_5) (fun _ h9 => h9) rfl (by decide +kernel) rfl rfl (Nat.le_of_ble_eq_true rfl) dX3_offer_60 (fun H locs hP hD hS => ?_)
        have hP : va_P G vwCl ((stT cI a (uSother (uSgoal (uSjob x p0) p1) p2))) H := hP
        have hD : va_D A ((stT cI a (uSother (uSgoal (uSjob x p0) p1) p2))) := hD
        refine lv_aload_n hx hb dX3_offer_63 rfl (lv_at hl 1 rfl) ?_
        refine lv_iload hx hb dX3_offer_64 (lv_at hl 5 rfl) ?_
        refine va_put (D := G) (ci := 3) (v := .int p3) (ty := .int) (C := RX3) (T := TX3) (N := 5) hx hb hts in_X3_offer_X3 tyX3 tyX3_ok nmX3 hown hK.1 hP hD hS 0 rfl rfl 3 (by decide) (hts _ lk_X3_offer_3) (fun _ h9 => h9) rfl (by decide +kernel) rfl rfl (Nat.le_of_ble_eq_true rfl) dX3_offer_66 (fun H locs hP hD hS => ?_)
        have hP : va_P G vwCl ((stT cI a (uSprice (uSother (uSgoal (uSjob x p0) p1) p2) p3))) H := hP
        have hD : va_D A ((stT cI a (uSprice (uSother (uSgoal (uSjob x p0) p1) p2) p3))) := hD
        refine lv_aload_n hx hb dX3_offer_69 rfl (lv_at hl 1 rfl) ?_
        refine lv_iload hx hb dX3_offer_70 (lv_at hl 6 rfl) ?_
        refine va_put (D := G) (ci := 3) (v := .int p4) (ty := .int) (C := RX3) (T := TX3) (N := 5) hx hb hts in_X3_offer_X3 tyX3 tyX3_ok nmX3 hown hK.1 hP hD hS 0 rfl rfl 4 (by decide) (hts _ lk_X3_offer_2) (fun _ h9 => h9) rfl (by decide +kernel) rfl rfl (Nat.le_of_ble_eq_true rfl) dX3_offer_72 (fun H locs hP hD hS => ?_)
        have hP : va_P G vwCl ((stT cI a (uSgreater (uSprice (uSother (uSgoal (uSjob x p0) p1) p2) p3) p4))) H := hP
        have hD : va_D A ((stT cI a (uSgreater (uSprice (uSother (uSgoal (uSjob x p0) p1) p2) p3) p4))) := hD
        exact m_vret () hx hb hr hlocks trivial (by rw [show (sOffer x p0 p1 p2 p3 p4) = (uSgreater (uSprice (uSother (uSgoal (uSjob x p0) p1) p2) p3) p4) from by first | rfl | (simp only [sOffer, eq_false c_1, eq_false (Ne.symm c_1), eq_false c_4, eq_false (Ne.symm c_4), eq_true c_5, eq_false (Int32.not_le.mpr c_5), if_true, if_false, and_true, true_and, and_false, false_and, or_true, true_or, or_false, false_or, not_true_eq_false, not_false_eq_true, ne_eq, ite_true, ite_false]) | (simp only [sOffer, eq_false c_1, eq_false (Ne.symm c_1), eq_false c_4, eq_false (Ne.symm c_4), eq_true c_5, eq_false (Int32.not_le.mpr c_5), if_true, if_false, and_true, true_and, and_false, false_and, or_true, true_or, or_false, false_or, not_true_eq_false, not_false_eq_true, ne_eq, ite_true, ite_false]; rfl)]; exact hP) (by rw [show (sOffer x p0 p1 p2 p3 p4) = (uSgreater (uSprice (uSother (uSgoal (uSjob x p0) p1) p2) p3) p4) from by first | rfl | (simp only [sOffer, eq_false c_1, eq_false (Ne.symm c_1), eq_false c_4, eq_false (Ne.symm c_4), eq_true c_5, eq_false (Int32.not_le.mpr c_5), if_true, if_false, and_true, true_and, and_false, false_and, or_true, true_or, or_false, false_or, not_true_eq_false, not_false_eq_true, ne_eq, ite_true, ite_false]) | (simp only [sOffer, eq_false c_1, eq_false (Ne.symm c_1), eq_false c_4, eq_false (Ne.symm c_4), eq_true c_5, eq_false (Int32.not_le.mpr c_5), if_true, if_false, and_true, true_and, and_false, false_and, or_true, true_or, or_false, false_or, not_true_eq_false, not_false_eq_true, ne_eq, ite_true, ite_false]; rfl)]; exact hD) hS dX3_offer_75
      · skip
        refine lv_iload hx hb dX3_offer_43 (lv_at hl 0 rfl) ?_
        refine lv_if_eq (tgt := 75) hx hb dX3_offer_45 (by decide) (fun c_6 => ?_) (fun c_6 => ?_)
        rotate_left
        · exact absurd c_6 (by decide)
        exact m_vret () hx hb hr hlocks trivial (by rw [show (sOffer x p0 p1 p2 p3 p4) = x from by first | rfl | (simp only [sOffer, eq_false c_1, eq_false (Ne.symm c_1), eq_false c_4, eq_false (Ne.symm c_4), eq_false c_5, eq_true (Int32.not_lt.mp c_5), if_true, if_false, and_true, true_and, and_false, false_and, or_true, true_or, or_false, false_or, not_true_eq_false, not_false_eq_true, ne_eq, ite_true, ite_false]) | (simp only [sOffer, eq_false c_1, eq_false (Ne.symm c_1), eq_false c_4, eq_false (Ne.symm c_4), eq_false c_5, eq_true (Int32.not_lt.mp c_5), if_true, if_false, and_true, true_and, and_false, false_and, or_true, true_or, or_false, false_or, not_true_eq_false, not_false_eq_true, ne_eq, ite_true, ite_false]; rfl)]; exact hP) (by rw [show (sOffer x p0 p1 p2 p3 p4) = x from by first | rfl | (simp only [sOffer, eq_false c_1, eq_false (Ne.symm c_1), eq_false c_4, eq_false (Ne.symm c_4), eq_false c_5, eq_true (Int32.not_lt.mp c_5), if_true, if_false, and_true, true_and, and_false, false_and, or_true, true_or, or_false, false_or, not_true_eq_false, not_false_eq_true, ne_eq, ite_true, ite_false]) | (simp only [sOffer, eq_false c_1, eq_false (Ne.symm c_1), eq_false c_4, eq_false (Ne.symm c_4), eq_false c_5, eq_true (Int32.not_lt.mp c_5), if_true, if_false, and_true, true_and, and_false, false_and, or_true, true_or, or_false, false_or, not_true_eq_false, not_false_eq_true, ne_eq, ite_true, ite_false]; rfl)]; exact hD) hS dX3_offer_75
    · skip
      refine lv_iload hx hb dX3_offer_18 (lv_at hl 4 rfl) ?_
      refine lv_aload_n hx hb dX3_offer_20 rfl (lv_at hl 0 rfl) ?_
      refine va_get (D := G) (ci := 3) (v := .int (kSprice x)) (C := RX3) (T := TX3) (N := 5) hx hb hts in_X3_offer_X3 hown hK.1 hP 0 rfl rfl 3 (by decide) (hts _ lk_X3_offer_3) (fun _ h9 => h9) rfl dX3_offer_21 ?_
      refine lv_icmp_ge (tgt := 31) hx hb dX3_offer_24 (by decide) (fun c_7 => ?_) (fun c_7 => ?_)
      · skip
        refine lv_iconst (v := 0) hx hb dX3_offer_31 (by decide) ?_
        refine lv_istore (lv' := [(6, .int 0), (0, .ref a), (1, .int p0), (2, .int p1), (3, .int p2), (4, .int p3), (5, .int p4)]) hx hb dX3_offer_32 hl (by decide) rfl (fun ls hl => ?_)
        refine lv_iload hx hb dX3_offer_34 (lv_at hl 6 rfl) ?_
        refine lv_aload_n hx hb dX3_offer_36 rfl (lv_at hl 1 rfl) ?_
        refine va_get (D := G) (ci := 3) (v := .int (kSgreater x)) (C := RX3) (T := TX3) (N := 5) hx hb hts in_X3_offer_X3 hown hK.1 hP 0 rfl rfl 4 (by decide) (hts _ lk_X3_offer_2) (fun _ h9 => h9) rfl dX3_offer_37 ?_
        refine lv_icmp_lt (tgt := 48) hx hb dX3_offer_40 (by decide) (fun c_8 => ?_) (fun c_8 => ?_)
        · skip
          refine lv_aload_n hx hb dX3_offer_48 rfl (lv_at hl 1 rfl) ?_
          refine lv_iload_n hx hb dX3_offer_49 rfl (lv_at hl 2 rfl) ?_
          refine va_put (D := G) (ci := 3) (v := .int p0) (ty := .int) (C := RX3) (T := TX3) (N := 5) hx hb hts in_X3_offer_X3 tyX3 tyX3_ok nmX3 hown hK.1 hP hD hS 0 rfl rfl 0 (by decide) (hts _ lk_X3_offer_1) (fun _ h9 => h9) rfl (by decide +kernel) rfl rfl (Nat.le_of_ble_eq_true rfl) dX3_offer_50 (fun H locs hP hD hS => ?_)
          have hP : va_P G vwCl ((stT cI a (uSjob x p0))) H := hP
          have hD : va_D A ((stT cI a (uSjob x p0))) := hD
          refine lv_aload_n hx hb dX3_offer_53 rfl (lv_at hl 1 rfl) ?_
          refine lv_iload_n hx hb dX3_offer_54 rfl (lv_at hl 3 rfl) ?_
          refine va_put (D := G) (ci := 3) (v := .int p1) (ty := .int) (C := RX3) (T := TX3) (N := 5) hx hb hts in_X3_offer_X3 tyX3 tyX3_ok nmX3 hown hK.1 hP hD hS 0 rfl rfl 1 (by decide) (hts _ lk_X3_offer_4) (fun _ h9 => h9) rfl (by decide +kernel) rfl rfl (Nat.le_of_ble_eq_true rfl) dX3_offer_55 (fun H locs hP hD hS => ?_)
          have hP : va_P G vwCl ((stT cI a (uSgoal (uSjob x p0) p1))) H := hP
          have hD : va_D A ((stT cI a (uSgoal (uSjob x p0) p1))) := hD
          refine lv_aload_n hx hb dX3_offer_58 rfl (lv_at hl 1 rfl) ?_
          refine lv_iload_n hx hb dX3_offer_59 rfl (lv_at hl 4 rfl) ?_
          refine va_put (D := G) (ci := 3) (v := .int p2) (ty := .int) (C := RX3) (T := TX3) (N := 5) hx hb hts in_X3_offer_X3 tyX3 tyX3_ok nmX3 hown hK.1 hP hD hS 0 rfl rfl 2 (by decide) (hts _ lk_X3_offer_5) (fun _ h9 => h9) rfl (by decide +kernel) rfl rfl (Nat.le_of_ble_eq_true rfl) dX3_offer_60 (fun H locs hP hD hS => ?_)
          have hP : va_P G vwCl ((stT cI a (uSother (uSgoal (uSjob x p0) p1) p2))) H := hP
          have hD : va_D A ((stT cI a (uSother (uSgoal (uSjob x p0) p1) p2))) := hD
          refine lv_aload_n hx hb dX3_offer_63 rfl (lv_at hl 1 rfl) ?_
          refine lv_iload hx hb dX3_offer_64 (lv_at hl 5 rfl) ?_
          refine va_put (D := G) (ci := 3) (v := .int p3) (ty := .int) (C := RX3) (T := TX3) (N := 5) hx hb hts in_X3_offer_X3 tyX3 tyX3_ok nmX3 hown hK.1 hP hD hS 0 rfl rfl 3 (by decide) (hts _ lk_X3_offer_3) (fun _ h9 => h9) rfl (by decide +kernel) rfl rfl (Nat.le_of_ble_eq_true rfl) dX3_offer_66 (fun H locs hP hD hS => ?_)
          have hP : va_P G vwCl ((stT cI a (uSprice (uSother (uSgoal (uSjob x p0) p1) p2) p3))) H := hP
          have hD : va_D A ((stT cI a (uSprice (uSother (uSgoal (uSjob x p0) p1) p2) p3))) := hD
          refine lv_aload_n hx hb dX3_offer_69 rfl (lv_at hl 1 rfl) ?_
          refine lv_iload hx hb dX3_offer_70 (lv_at hl 6 rfl) ?_
          refine va_put (D := G) (ci := 3) (v := .int p4) (ty := .int) (C := RX3) (T := TX3) (N := 5) hx hb hts in_X3_offer_X3 tyX3 tyX3_ok nmX3 hown hK.1 hP hD hS 0 rfl rfl 4 (by decide) (hts _ lk_X3_offer_2) (fun _ h9 => h9) rfl (by decide +kernel) rfl rfl (Nat.le_of_ble_eq_true rfl) dX3_offer_72 (fun H locs hP hD hS => ?_)
          have hP : va_P G vwCl ((stT cI a (uSgreater (uSprice (uSother (uSgoal (uSjob x p0) p1) p2) p3) p4))) H := hP
          have hD : va_D A ((stT cI a (uSgreater (uSprice (uSother (uSgoal (uSjob x p0) p1) p2) p3) p4))) := hD
          exact m_vret () hx hb hr hlocks trivial (by rw [show (sOffer x p0 p1 p2 p3 p4) = (uSgreater (uSprice (uSother (uSgoal (uSjob x p0) p1) p2) p3) p4) from by first | rfl | (simp only [sOffer, eq_false c_1, eq_false (Ne.symm c_1), eq_true c_4, eq_true (Eq.symm c_4), eq_true c_7, eq_false (Int32.not_lt.mpr c_7), eq_true c_8, eq_false (Int32.not_le.mpr c_8), if_true, if_false, and_true, true_and, and_false, false_and, or_true, true_or, or_false, false_or, not_true_eq_false, not_false_eq_true, ne_eq, ite_true, ite_false]) | (simp only [sOffer, eq_false c_1, eq_false (Ne.symm c_1), eq_true c_4, eq_true (Eq.symm c_4), eq_true c_7, eq_false (Int32.not_lt.mpr c_7), eq_true c_8, eq_false (Int32.not_le.mpr c_8), if_true, if_false, and_true, true_and, and_false, false_and, or_true, true_or, or_false, false_or, not_true_eq_false, not_false_eq_true, ne_eq, ite_true, ite_false]; rfl)]; exact hP) (by rw [show (sOffer x p0 p1 p2 p3 p4) = (uSgreater (uSprice (uSother (uSgoal (uSjob x p0) p1) p2) p3) p4) from by first | rfl | (simp only [sOffer, eq_false c_1, eq_false (Ne.symm c_1), eq_true c_4, eq_true (Eq.symm c_4), eq_true c_7, eq_false (Int32.not_lt.mpr c_7), eq_true c_8, eq_false (Int32.not_le.mpr c_8), if_true, if_false, and_true, true_and, and_false, false_and, or_true, true_or, or_false, false_or, not_true_eq_false, not_false_eq_true, ne_eq, ite_true, ite_false]) | (simp only [sOffer, eq_false c_1, eq_false (Ne.symm c_1), eq_true c_4, eq_true (Eq.symm c_4), eq_true c_7, eq_false (Int32.not_lt.mpr c_7), eq_true c_8, eq_false (Int32.not_le.mpr c_8), if_true, if_false, and_true, true_and, and_false, false_and, or_true, true_or, or_false, false_or, not_true_eq_false, not_false_eq_true, ne_eq, ite_true, ite_false]; rfl)]; exact hD) hS dX3_offer_75
        · skip
          refine lv_iload hx hb dX3_offer_43 (lv_at hl 0 rfl) ?_
          refine lv_if_eq (tgt := 75) hx hb dX3_offer_45 (by decide) (fun c_9 => ?_) (fun c_9 => ?_)
          rotate_left
          · exact absurd c_9 (by decide)
          exact m_vret () hx hb hr hlocks trivial (by rw [show (sOffer x p0 p1 p2 p3 p4) = x from by first | rfl | (simp only [sOffer, eq_false c_1, eq_false (Ne.symm c_1), eq_true c_4, eq_true (Eq.symm c_4), eq_true c_7, eq_false (Int32.not_lt.mpr c_7), eq_false c_8, eq_true (Int32.not_lt.mp c_8), if_true, if_false, and_true, true_and, and_false, false_and, or_true, true_or, or_false, false_or, not_true_eq_false, not_false_eq_true, ne_eq, ite_true, ite_false]) | (simp only [sOffer, eq_false c_1, eq_false (Ne.symm c_1), eq_true c_4, eq_true (Eq.symm c_4), eq_true c_7, eq_false (Int32.not_lt.mpr c_7), eq_false c_8, eq_true (Int32.not_lt.mp c_8), if_true, if_false, and_true, true_and, and_false, false_and, or_true, true_or, or_false, false_or, not_true_eq_false, not_false_eq_true, ne_eq, ite_true, ite_false]; rfl)]; exact hP) (by rw [show (sOffer x p0 p1 p2 p3 p4) = x from by first | rfl | (simp only [sOffer, eq_false c_1, eq_false (Ne.symm c_1), eq_true c_4, eq_true (Eq.symm c_4), eq_true c_7, eq_false (Int32.not_lt.mpr c_7), eq_false c_8, eq_true (Int32.not_lt.mp c_8), if_true, if_false, and_true, true_and, and_false, false_and, or_true, true_or, or_false, false_or, not_true_eq_false, not_false_eq_true, ne_eq, ite_true, ite_false]) | (simp only [sOffer, eq_false c_1, eq_false (Ne.symm c_1), eq_true c_4, eq_true (Eq.symm c_4), eq_true c_7, eq_false (Int32.not_lt.mpr c_7), eq_false c_8, eq_true (Int32.not_lt.mp c_8), if_true, if_false, and_true, true_and, and_false, false_and, or_true, true_or, or_false, false_or, not_true_eq_false, not_false_eq_true, ne_eq, ite_true, ite_false]; rfl)]; exact hD) hS dX3_offer_75
      · skip
        refine lv_iconst (v := 1) hx hb dX3_offer_27 (by decide) ?_
        refine lv_goto (tgt := 32) hx hb dX3_offer_28 (by decide) ?_
        refine lv_istore (lv' := [(6, .int 1), (0, .ref a), (1, .int p0), (2, .int p1), (3, .int p2), (4, .int p3), (5, .int p4)]) hx hb dX3_offer_32 hl (by decide) rfl (fun ls hl => ?_)
        refine lv_iload hx hb dX3_offer_34 (lv_at hl 6 rfl) ?_
        refine lv_aload_n hx hb dX3_offer_36 rfl (lv_at hl 1 rfl) ?_
        refine va_get (D := G) (ci := 3) (v := .int (kSgreater x)) (C := RX3) (T := TX3) (N := 5) hx hb hts in_X3_offer_X3 hown hK.1 hP 0 rfl rfl 4 (by decide) (hts _ lk_X3_offer_2) (fun _ h9 => h9) rfl dX3_offer_37 ?_
        refine lv_icmp_lt (tgt := 48) hx hb dX3_offer_40 (by decide) (fun c_10 => ?_) (fun c_10 => ?_)
        · skip
          refine lv_aload_n hx hb dX3_offer_48 rfl (lv_at hl 1 rfl) ?_
          refine lv_iload_n hx hb dX3_offer_49 rfl (lv_at hl 2 rfl) ?_
          refine va_put (D := G) (ci := 3) (v := .int p0) (ty := .int) (C := RX3) (T := TX3) (N := 5) hx hb hts in_X3_offer_X3 tyX3 tyX3_ok nmX3 hown hK.1 hP hD hS 0 rfl rfl 0 (by decide) (hts _ lk_X3_offer_1) (fun _ h9 => h9) rfl (by decide +kernel) rfl rfl (Nat.le_of_ble_eq_true rfl) dX3_offer_50 (fun H locs hP hD hS => ?_)
          have hP : va_P G vwCl ((stT cI a (uSjob x p0))) H := hP
          have hD : va_D A ((stT cI a (uSjob x p0))) := hD
          refine lv_aload_n hx hb dX3_offer_53 rfl (lv_at hl 1 rfl) ?_
          refine lv_iload_n hx hb dX3_offer_54 rfl (lv_at hl 3 rfl) ?_
          refine va_put (D := G) (ci := 3) (v := .int p1) (ty := .int) (C := RX3) (T := TX3) (N := 5) hx hb hts in_X3_offer_X3 tyX3 tyX3_ok nmX3 hown hK.1 hP hD hS 0 rfl rfl 1 (by decide) (hts _ lk_X3_offer_4) (fun _ h9 => h9) rfl (by decide +kernel) rfl rfl (Nat.le_of_ble_eq_true rfl) dX3_offer_55 (fun H locs hP hD hS => ?_)
          have hP : va_P G vwCl ((stT cI a (uSgoal (uSjob x p0) p1))) H := hP
          have hD : va_D A ((stT cI a (uSgoal (uSjob x p0) p1))) := hD
          refine lv_aload_n hx hb dX3_offer_58 rfl (lv_at hl 1 rfl) ?_
          refine lv_iload_n hx hb dX3_offer_59 rfl (lv_at hl 4 rfl) ?_
          refine va_put (D := G) (ci := 3) (v := .int p2) (ty := .int) (C := RX3) (T := TX3) (N := 5) hx hb hts in_X3_offer_X3 tyX3 tyX3_ok nmX3 hown hK.1 hP hD hS 0 rfl rfl 2 (by decide) (hts _ lk_X3_offer_5) (fun _ h9 => h9) rfl (by decide +kernel) rfl rfl (Nat.le_of_ble_eq_true rfl) dX3_offer_60 (fun H locs hP hD hS => ?_)
          have hP : va_P G vwCl ((stT cI a (uSother (uSgoal (uSjob x p0) p1) p2))) H := hP
          have hD : va_D A ((stT cI a (uSother (uSgoal (uSjob x p0) p1) p2))) := hD
          refine lv_aload_n hx hb dX3_offer_63 rfl (lv_at hl 1 rfl) ?_
          refine lv_iload hx hb dX3_offer_64 (lv_at hl 5 rfl) ?_
          refine va_put (D := G) (ci := 3) (v := .int p3) (ty := .int) (C := RX3) (T := TX3) (N := 5) hx hb hts in_X3_offer_X3 tyX3 tyX3_ok nmX3 hown hK.1 hP hD hS 0 rfl rfl 3 (by decide) (hts _ lk_X3_offer_3) (fun _ h9 => h9) rfl (by decide +kernel) rfl rfl (Nat.le_of_ble_eq_true rfl) dX3_offer_66 (fun H locs hP hD hS => ?_)
          have hP : va_P G vwCl ((stT cI a (uSprice (uSother (uSgoal (uSjob x p0) p1) p2) p3))) H := hP
          have hD : va_D A ((stT cI a (uSprice (uSother (uSgoal (uSjob x p0) p1) p2) p3))) := hD
          refine lv_aload_n hx hb dX3_offer_69 rfl (lv_at hl 1 rfl) ?_
          refine lv_iload hx hb dX3_offer_70 (lv_at hl 6 rfl) ?_
          refine va_put (D := G) (ci := 3) (v := .int p4) (ty := .int) (C := RX3) (T := TX3) (N := 5) hx hb hts in_X3_offer_X3 tyX3 tyX3_ok nmX3 hown hK.1 hP hD hS 0 rfl rfl 4 (by decide) (hts _ lk_X3_offer_2) (fun _ h9 => h9) rfl (by decide +kernel) rfl rfl (Nat.le_of_ble_eq_true rfl) dX3_offer_72 (fun H locs hP hD hS => ?_)
          have hP : va_P G vwCl ((stT cI a (uSgreater (uSprice (uSother (uSgoal (uSjob x p0) p1) p2) p3) p4))) H := hP
          have hD : va_D A ((stT cI a (uSgreater (uSprice (uSother (uSgoal (uSjob x p0) p1) p2) p3) p4))) := hD
          exact m_vret () hx hb hr hlocks trivial (by rw [show (sOffer x p0 p1 p2 p3 p4) = (uSgreater (uSprice (uSother (uSgoal (uSjob x p0) p1) p2) p3) p4) from by first | rfl | (simp only [sOffer, eq_false c_1, eq_false (Ne.symm c_1), eq_true c_4, eq_true (Eq.symm c_4), eq_false c_7, eq_true (Int32.not_le.mp c_7), eq_true c_10, eq_false (Int32.not_le.mpr c_10), if_true, if_false, and_true, true_and, and_false, false_and, or_true, true_or, or_false, false_or, not_true_eq_false, not_false_eq_true, ne_eq, ite_true, ite_false]) | (simp only [sOffer, eq_false c_1, eq_false (Ne.symm c_1), eq_true c_4, eq_true (Eq.symm c_4), eq_false c_7, eq_true (Int32.not_le.mp c_7), eq_true c_10, eq_false (Int32.not_le.mpr c_10), if_true, if_false, and_true, true_and, and_false, false_and, or_true, true_or, or_false, false_or, not_true_eq_false, not_false_eq_true, ne_eq, ite_true, ite_false]; rfl)]; exact hP) (by rw [show (sOffer x p0 p1 p2 p3 p4) = (uSgreater (uSprice (uSother (uSgoal (uSjob x p0) p1) p2) p3) p4) from by first | rfl | (simp only [sOffer, eq_false c_1, eq_false (Ne.symm c_1), eq_true c_4, eq_true (Eq.symm c_4), eq_false c_7, eq_true (Int32.not_le.mp c_7), eq_true c_10, eq_false (Int32.not_le.mpr c_10), if_true, if_false, and_true, true_and, and_false, false_and, or_true, true_or, or_false, false_or, not_true_eq_false, not_false_eq_true, ne_eq, ite_true, ite_false]) | (simp only [sOffer, eq_false c_1, eq_false (Ne.symm c_1), eq_true c_4, eq_true (Eq.symm c_4), eq_false c_7, eq_true (Int32.not_le.mp c_7), eq_true c_10, eq_false (Int32.not_le.mpr c_10), if_true, if_false, and_true, true_and, and_false, false_and, or_true, true_or, or_false, false_or, not_true_eq_false, not_false_eq_true, ne_eq, ite_true, ite_false]; rfl)]; exact hD) hS dX3_offer_75
        · skip
          refine lv_iload hx hb dX3_offer_43 (lv_at hl 0 rfl) ?_
          refine lv_if_eq (tgt := 75) hx hb dX3_offer_45 (by decide) (fun c_11 => ?_) (fun c_11 => ?_)
          · exact absurd c_11 (by decide)
          refine lv_aload_n hx hb dX3_offer_48 rfl (lv_at hl 1 rfl) ?_
          refine lv_iload_n hx hb dX3_offer_49 rfl (lv_at hl 2 rfl) ?_
          refine va_put (D := G) (ci := 3) (v := .int p0) (ty := .int) (C := RX3) (T := TX3) (N := 5) hx hb hts in_X3_offer_X3 tyX3 tyX3_ok nmX3 hown hK.1 hP hD hS 0 rfl rfl 0 (by decide) (hts _ lk_X3_offer_1) (fun _ h9 => h9) rfl (by decide +kernel) rfl rfl (Nat.le_of_ble_eq_true rfl) dX3_offer_50 (fun H locs hP hD hS => ?_)
          have hP : va_P G vwCl ((stT cI a (uSjob x p0))) H := hP
          have hD : va_D A ((stT cI a (uSjob x p0))) := hD
          refine lv_aload_n hx hb dX3_offer_53 rfl (lv_at hl 1 rfl) ?_
          refine lv_iload_n hx hb dX3_offer_54 rfl (lv_at hl 3 rfl) ?_
          refine va_put (D := G) (ci := 3) (v := .int p1) (ty := .int) (C := RX3) (T := TX3) (N := 5) hx hb hts in_X3_offer_X3 tyX3 tyX3_ok nmX3 hown hK.1 hP hD hS 0 rfl rfl 1 (by decide) (hts _ lk_X3_offer_4) (fun _ h9 => h9) rfl (by decide +kernel) rfl rfl (Nat.le_of_ble_eq_true rfl) dX3_offer_55 (fun H locs hP hD hS => ?_)
          have hP : va_P G vwCl ((stT cI a (uSgoal (uSjob x p0) p1))) H := hP
          have hD : va_D A ((stT cI a (uSgoal (uSjob x p0) p1))) := hD
          refine lv_aload_n hx hb dX3_offer_58 rfl (lv_at hl 1 rfl) ?_
          refine lv_iload_n hx hb dX3_offer_59 rfl (lv_at hl 4 rfl) ?_
          refine va_put (D := G) (ci := 3) (v := .int p2) (ty := .int) (C := RX3) (T := TX3) (N := 5) hx hb hts in_X3_offer_X3 tyX3 tyX3_ok nmX3 hown hK.1 hP hD hS 0 rfl rfl 2 (by decide) (hts _ lk_X3_offer_5) (fun _ h9 => h9) rfl (by decide +kernel) rfl rfl (Nat.le_of_ble_eq_true rfl) dX3_offer_60 (fun H locs hP hD hS => ?_)
          have hP : va_P G vwCl ((stT cI a (uSother (uSgoal (uSjob x p0) p1) p2))) H := hP
          have hD : va_D A ((stT cI a (uSother (uSgoal (uSjob x p0) p1) p2))) := hD
          refine lv_aload_n hx hb dX3_offer_63 rfl (lv_at hl 1 rfl) ?_
          refine lv_iload hx hb dX3_offer_64 (lv_at hl 5 rfl) ?_
          refine va_put (D := G) (ci := 3) (v := .int p3) (ty := .int) (C := RX3) (T := TX3) (N := 5) hx hb hts in_X3_offer_X3 tyX3 tyX3_ok nmX3 hown hK.1 hP hD hS 0 rfl rfl 3 (by decide) (hts _ lk_X3_offer_3) (fun _ h9 => h9) rfl (by decide +kernel) rfl rfl (Nat.le_of_ble_eq_true rfl) dX3_offer_66 (fun H locs hP hD hS => ?_)
          have hP : va_P G vwCl ((stT cI a (uSprice (uSother (uSgoal (uSjob x p0) p1) p2) p3))) H := hP
          have hD : va_D A ((stT cI a (uSprice (uSother (uSgoal (uSjob x p0) p1) p2) p3))) := hD
          refine lv_aload_n hx hb dX3_offer_69 rfl (lv_at hl 1 rfl) ?_
          refine lv_iload hx hb dX3_offer_70 (lv_at hl 6 rfl) ?_
          refine va_put (D := G) (ci := 3) (v := .int p4) (ty := .int) (C := RX3) (T := TX3) (N := 5) hx hb hts in_X3_offer_X3 tyX3 tyX3_ok nmX3 hown hK.1 hP hD hS 0 rfl rfl 4 (by decide) (hts _ lk_X3_offer_2) (fun _ h9 => h9) rfl (by decide +kernel) rfl rfl (Nat.le_of_ble_eq_true rfl) dX3_offer_72 (fun H locs hP hD hS => ?_)
          have hP : va_P G vwCl ((stT cI a (uSgreater (uSprice (uSother (uSgoal (uSjob x p0) p1) p2) p3) p4))) H := hP
          have hD : va_D A ((stT cI a (uSgreater (uSprice (uSother (uSgoal (uSjob x p0) p1) p2) p3) p4))) := hD
          exact m_vret () hx hb hr hlocks trivial (by rw [show (sOffer x p0 p1 p2 p3 p4) = (uSgreater (uSprice (uSother (uSgoal (uSjob x p0) p1) p2) p3) p4) from by first | rfl | (simp only [sOffer, eq_false c_1, eq_false (Ne.symm c_1), eq_true c_4, eq_true (Eq.symm c_4), eq_false c_7, eq_true (Int32.not_le.mp c_7), eq_false c_10, eq_true (Int32.not_lt.mp c_10), if_true, if_false, and_true, true_and, and_false, false_and, or_true, true_or, or_false, false_or, not_true_eq_false, not_false_eq_true, ne_eq, ite_true, ite_false]) | (simp only [sOffer, eq_false c_1, eq_false (Ne.symm c_1), eq_true c_4, eq_true (Eq.symm c_4), eq_false c_7, eq_true (Int32.not_le.mp c_7), eq_false c_10, eq_true (Int32.not_lt.mp c_10), if_true, if_false, and_true, true_and, and_false, false_and, or_true, true_or, or_false, false_or, not_true_eq_false, not_false_eq_true, ne_eq, ite_true, ite_false]; rfl)]; exact hP) (by rw [show (sOffer x p0 p1 p2 p3 p4) = (uSgreater (uSprice (uSother (uSgoal (uSjob x p0) p1) p2) p3) p4) from by first | rfl | (simp only [sOffer, eq_false c_1, eq_false (Ne.symm c_1), eq_true c_4, eq_true (Eq.symm c_4), eq_false c_7, eq_true (Int32.not_le.mp c_7), eq_false c_10, eq_true (Int32.not_lt.mp c_10), if_true, if_false, and_true, true_and, and_false, false_and, or_true, true_or, or_false, false_or, not_true_eq_false, not_false_eq_true, ne_eq, ite_true, ite_false]) | (simp only [sOffer, eq_false c_1, eq_false (Ne.symm c_1), eq_true c_4, eq_true (Eq.symm c_4), eq_false c_7, eq_true (Int32.not_le.mp c_7), eq_false c_10, eq_true (Int32.not_lt.mp c_10), if_true, if_false, and_true, true_and, and_false, false_and, or_true, true_or, or_false, false_or, not_true_eq_false, not_false_eq_true, ne_eq, ite_true, ite_false]; rfl)]; exact hD) hS dX3_offer_75
theorem cd_X3_offer : yX3_offer.cls = RX3 ∧ yX3_offer.cls ≠ "java/lang/invoke/MethodHandle" ∧ yX3_offer.cls ≠ "java/lang/invoke/VarHandle" ∧ (parseMethodDescriptor yX3_offer.desc).map (fun d => d.parameters.length) = some 5 := by decide +kernel
-- X3_startBelow
theorem lk_X3_startBelow_1 : Cond.fieldLink RX3 9 "EvenLoads$Step" "job" "I" ∈ wsX3_startBelow := List.mem_of_getElem? (i := 1) (by decide +kernel)
theorem lk_X3_startBelow_2 : Cond.fieldLink RX3 24 "EvenLoads$Step" "greater" "I" ∈ wsX3_startBelow := List.mem_of_getElem? (i := 2) (by decide +kernel)
theorem in_X3_startBelow_X3 : ∀ w ∈ wsX30, w ∈ wsX3_startBelow := by decide +kernel
set_option maxHeartbeats 4000000 in
set_option maxRecDepth 100000 in
theorem c_X3_startBelow (l : Launch) (G : va_G) (cI cQ : ClassId) (a : Nat) (x : SS) (p0 : Int32) (sz0 : Nat) : Met l yX3_startBelow wsX3_startBelow ({ frames := 0, cells := 0, slots := 0, locals := 0 } : Room) (mPc G cI cQ [.ref a, .int p0] ((stT cI a x)) sz0) (va_Qv (fun (_ : Unit) => True) (mB G (va_A ((stT cI a x)) sz0) (fun _ => (stT cI a (sStart x p0)))) (va_A ((stT cI a x)) sz0)) 0 0 (va_A ((stT cI a x)) sz0) := by
  refine mm_ofv (cc := cX3_startBelow) (maxL := 2) (ret := none) (own := RX3) (by decide) rfl rfl (Nat.le_of_ble_eq_true rfl) rfl ?_
  intro p e s m below meth cd ls A hx hb hr hts hown hlocks hml hA hK hP hD hS hl
  refine lv_aload_n hx hb dX3_startBelow_0 rfl (lv_at hl 0 rfl) ?_
  refine lv_bipush (v := (-9)) hx hb dX3_startBelow_1 (by decide) ?_
  refine va_put (D := G) (ci := 3) (v := .int (-9)) (ty := .int) (C := RX3) (T := TX3) (N := 5) hx hb hts in_X3_startBelow_X3 tyX3 tyX3_ok nmX3 hown hK.1 hP hD hS 0 rfl rfl 0 (by decide) (hts _ lk_X3_startBelow_1) (fun _ h9 => h9) rfl (by decide +kernel) rfl rfl (Nat.le_of_ble_eq_true rfl) dX3_startBelow_3 (fun H locs hP hD hS => ?_)
  have hP : va_P G vwCl ((stT cI a (uSjob x (-9)))) H := hP
  have hD : va_D A ((stT cI a (uSjob x (-9)))) := hD
  refine lv_aload_n hx hb dX3_startBelow_6 rfl (lv_at hl 0 rfl) ?_
  refine lv_iload_n hx hb dX3_startBelow_7 rfl (lv_at hl 1 rfl) ?_
  refine va_put (D := G) (ci := 3) (v := .int p0) (ty := .int) (C := RX3) (T := TX3) (N := 5) hx hb hts in_X3_startBelow_X3 tyX3 tyX3_ok nmX3 hown hK.1 hP hD hS 0 rfl rfl 4 (by decide) (hts _ lk_X3_startBelow_2) (fun _ h9 => h9) rfl (by decide +kernel) rfl rfl (Nat.le_of_ble_eq_true rfl) dX3_startBelow_8 (fun H locs hP hD hS => ?_)
  have hP : va_P G vwCl ((stT cI a (uSgreater (uSjob x (-9)) p0))) H := hP
  have hD : va_D A ((stT cI a (uSgreater (uSjob x (-9)) p0))) := hD
  exact m_vret () hx hb hr hlocks trivial (by rw [show (sStart x p0) = (uSgreater (uSjob x (-9)) p0) from by first | rfl | (simp only [sStart, if_true, if_false, and_true, true_and, and_false, false_and, or_true, true_or, or_false, false_or, not_true_eq_false, not_false_eq_true, ne_eq, ite_true, ite_false]) | (simp only [sStart, if_true, if_false, and_true, true_and, and_false, false_and, or_true, true_or, or_false, false_or, not_true_eq_false, not_false_eq_true, ne_eq, ite_true, ite_false]; rfl)]; exact hP) (by rw [show (sStart x p0) = (uSgreater (uSjob x (-9)) p0) from by first | rfl | (simp only [sStart, if_true, if_false, and_true, true_and, and_false, false_and, or_true, true_or, or_false, false_or, not_true_eq_false, not_false_eq_true, ne_eq, ite_true, ite_false]) | (simp only [sStart, if_true, if_false, and_true, true_and, and_false, false_and, or_true, true_or, or_false, false_or, not_true_eq_false, not_false_eq_true, ne_eq, ite_true, ite_false]; rfl)]; exact hD) hS dX3_startBelow_11
theorem cd_X3_startBelow : yX3_startBelow.cls = RX3 ∧ yX3_startBelow.cls ≠ "java/lang/invoke/MethodHandle" ∧ yX3_startBelow.cls ≠ "java/lang/invoke/VarHandle" ∧ (parseMethodDescriptor yX3_startBelow.desc).map (fun d => d.parameters.length) = some 1 := by decide +kernel
-- X3_isPossible
theorem lk_X3_isPossible_1 : Cond.fieldLink RX3 9 "EvenLoads$Step" "job" "I" ∈ wsX3_isPossible := List.mem_of_getElem? (i := 1) (by decide +kernel)
theorem lk_X3_isPossible_2 : Cond.fieldLink RX3 21 "EvenLoads$Step" "price" "I" ∈ wsX3_isPossible := List.mem_of_getElem? (i := 2) (by decide +kernel)
theorem in_X3_isPossible_X0 : ∀ w ∈ wsX00, w ∈ wsX3_isPossible := by decide +kernel
theorem in_X3_isPossible_X3 : ∀ w ∈ wsX30, w ∈ wsX3_isPossible := by decide +kernel
set_option maxHeartbeats 4000000 in
set_option maxRecDepth 100000 in
theorem c_X3_isPossible (l : Launch) (G : va_G) (cI cQ : ClassId) (a : Nat) (x : SS) (h : Nat → Nat) (c : CS) (hv : knv c ≤ 6) (hj : knj c ≤ 24) : Met l yX3_isPossible wsX3_isPossible ({ frames := 0, cells := 0, slots := 0, locals := 0 } : Room) (pPc G cI cQ [.ref a, .ref (h 0)] ((stT cI a x) ++ (clT cI h c))) (vp_Si (fun r => r = bI (pPoss x c))) 0 0 (fun _ => False) := by
  refine pm_of (cc := cX3_isPossible) (maxL := 2) (ret := (some .boolean)) (own := RX3) (by decide) rfl rfl (Nat.le_of_ble_eq_true rfl) rfl ?_
  intro p e s m below meth cd ls hx hb hr hts hown hlocks hml hK hP hl
  refine lv_aload_n hx hb dX3_isPossible_0 rfl (lv_at hl 0 rfl) ?_
  refine va_get (D := G) (ci := 3) (v := .int (kSjob x)) (C := RX3) (T := TX3) (N := 5) hx hb hts in_X3_isPossible_X3 hown hK.1 hP 0 rfl rfl 0 (by decide) (hts _ lk_X3_isPossible_1) (fun _ h9 => h9) rfl dX3_isPossible_1 ?_
  refine lv_bipush (v := (-9)) hx hb dX3_isPossible_4 (by decide) ?_
  refine lv_icmp_eq (tgt := 24) hx hb dX3_isPossible_6 (by decide) (fun c_1 => ?_) (fun c_1 => ?_)
  · skip
    refine lv_iconst (v := 0) hx hb dX3_isPossible_24 (by decide) ?_
    exact p_ret hx hb hr hlocks rfl (by first | rfl | (simp only [bI, pPoss, eq_true c_1, eq_true (Eq.symm c_1), if_true, if_false, and_true, true_and, and_false, false_and, or_true, true_or, or_false, false_or, not_true_eq_false, not_false_eq_true, ne_eq, ite_true, ite_false]) | (simp only [bI, pPoss, eq_true c_1, eq_true (Eq.symm c_1), if_true, if_false, and_true, true_and, and_false, false_and, or_true, true_or, or_false, false_or, not_true_eq_false, not_false_eq_true, ne_eq, ite_true, ite_false]; rfl)) dX3_isPossible_25
  · skip
    refine lv_aload_n hx hb dX3_isPossible_9 rfl (lv_at hl 0 rfl) ?_
    refine va_get (D := G) (ci := 3) (v := .int (kSprice x)) (C := RX3) (T := TX3) (N := 5) hx hb hts in_X3_isPossible_X3 hown hK.1 hP 0 rfl rfl 3 (by decide) (hts _ lk_X3_isPossible_2) (fun _ h9 => h9) rfl dX3_isPossible_10 ?_
    refine lv_aload_n hx hb dX3_isPossible_13 rfl (lv_at hl 1 rfl) ?_
    refine va_getN (D := G) (ci := 0) (v := .int (kbu c)) (C := RX0) (T := TX0) (N := 13) hx hb hts in_X3_isPossible_X0 hown hK.1 hP 1 rfl rfl 10 (by decide) (hK.2.f 16 rfl) (fun _ h9 => h9) rfl dX3_isPossible_14 ?_
    refine lv_icmp_gt (tgt := 24) hx hb dX3_isPossible_17 (by decide) (fun c_2 => ?_) (fun c_2 => ?_)
    · skip
      refine lv_iconst (v := 0) hx hb dX3_isPossible_24 (by decide) ?_
      exact p_ret hx hb hr hlocks rfl (by first | rfl | (simp only [bI, pPoss, eq_false c_1, eq_false (Ne.symm c_1), eq_true c_2, eq_false (Int32.not_le.mpr c_2), if_true, if_false, and_true, true_and, and_false, false_and, or_true, true_or, or_false, false_or, not_true_eq_false, not_false_eq_true, ne_eq, ite_true, ite_false]) | (simp only [bI, pPoss, eq_false c_1, eq_false (Ne.symm c_1), eq_true c_2, eq_false (Int32.not_le.mpr c_2), if_true, if_false, and_true, true_and, and_false, false_and, or_true, true_or, or_false, false_or, not_true_eq_false, not_false_eq_true, ne_eq, ite_true, ite_false]; rfl)) dX3_isPossible_25
    · skip
      refine lv_iconst (v := 1) hx hb dX3_isPossible_20 (by decide) ?_
      refine lv_goto (tgt := 25) hx hb dX3_isPossible_21 (by decide) ?_
      exact p_ret hx hb hr hlocks rfl (by first | rfl | (simp only [bI, pPoss, eq_false c_1, eq_false (Ne.symm c_1), eq_false c_2, eq_true (Int32.not_lt.mp c_2), if_true, if_false, and_true, true_and, and_false, false_and, or_true, true_or, or_false, false_or, not_true_eq_false, not_false_eq_true, ne_eq, ite_true, ite_false]) | (simp only [bI, pPoss, eq_false c_1, eq_false (Ne.symm c_1), eq_false c_2, eq_true (Int32.not_lt.mp c_2), if_true, if_false, and_true, true_and, and_false, false_and, or_true, true_or, or_false, false_or, not_true_eq_false, not_false_eq_true, ne_eq, ite_true, ite_false]; rfl)) dX3_isPossible_25
theorem cd_X3_isPossible : yX3_isPossible.cls = RX3 ∧ yX3_isPossible.cls ≠ "java/lang/invoke/MethodHandle" ∧ yX3_isPossible.cls ≠ "java/lang/invoke/VarHandle" ∧ (parseMethodDescriptor yX3_isPossible.desc).map (fun d => d.parameters.length) = some 1 := by decide +kernel
-- X3_chooseMove
theorem lk_X3_chooseMove_1 : Cond.methodLink RX3 85 Lib.Math.max.name ∈ wsX3_chooseMove := List.mem_of_getElem? (i := 1) (by decide +kernel)
theorem lk_X3_chooseMove_2 : Cond.static Lib.Math.max.name ∈ wsX3_chooseMove := List.mem_of_getElem? (i := 2) (by decide +kernel)
theorem lk_X3_chooseMove_3 : Cond.initialized "java/lang/Math" ∈ wsX3_chooseMove := List.mem_of_getElem? (i := 3) (by decide +kernel)
theorem lk_X3_chooseMove_4 : Cond.code Lib.Math.max.name Lib.Math.max.code 2 (some .int) ∈ wsX3_chooseMove := List.mem_of_getElem? (i := 4) (by decide +kernel)
theorem lk_X3_chooseMove_5 : Cond.static yX4_at ∈ wsX3_chooseMove := List.mem_of_getElem? (i := 5) (by decide +kernel)
theorem lk_X3_chooseMove_6 : Cond.initialized RX4 ∈ wsX3_chooseMove := List.mem_of_getElem? (i := 6) (by decide +kernel)
theorem in_X3_chooseMove_X0 : ∀ w ∈ wsX00, w ∈ wsX3_chooseMove := by decide +kernel
set_option maxHeartbeats 4000000 in
set_option maxRecDepth 100000 in
theorem c_X3_chooseMove (l : Launch) (G : va_G) (cI cQ : ClassId) (a : Nat) (x : SS) (h : Nat → Nat) (c : CS) (hv : knv c ≤ 6) (hj : knj c ≤ 24) (p0 : Int32) (sz0 : Nat) : Met l yX3_chooseMove wsX3_chooseMove ({ frames := 1, cells := 0, slots := 0, locals := 60 } : Room) (mPc G cI cQ [.ref a, .ref (h 0), .int p0] ((stT cI a x) ++ (clT cI h c)) sz0) (va_Qv (fun (_ : Unit) => True) (mB G (va_A ((stT cI a x) ++ (clT cI h c)) sz0) (fun _ => (stT cI a (sChM c p0 x)) ++ (clT cI h c))) (va_A ((stT cI a x) ++ (clT cI h c)) sz0)) 0 0 (va_A ((stT cI a x) ++ (clT cI h c)) sz0) := by
  refine mm_ofv (cc := cX3_chooseMove) (maxL := 8) (ret := none) (own := RX3) (by decide) rfl rfl (Nat.le_of_ble_eq_true rfl) rfl ?_
  intro p e s m below meth cd ls A hx hb hr hts hown hlocks hml hA hK hP hD hS hl
  refine lv_aload_n hx hb dX3_chooseMove_0 rfl (lv_at hl 1 rfl) ?_
  refine va_getN (D := G) (ci := 0) (v := .ref (h 5)) (C := RX0) (T := TX0) (N := 13) hx hb hts in_X3_chooseMove_X0 hown hK.1 hP 1 rfl rfl 4 (by decide) (hK.2.f 7 rfl) (fun _ h9 => h9) rfl dX3_chooseMove_1 ?_
  refine lv_iload_n hx hb dX3_chooseMove_4 rfl (lv_at hl 2 rfl) ?_
  refine pcSN (rest := []) ⟨hx, hb, hml, hown, hts⟩ (c_X4_at l G cI cQ (h 5) 6 (kld c) p0 (by decide)) ⟨va_cnB 2 hts gX3_chooseMove_X4_at_n41 rfl rfl rfl (hK.2.m 7 rfl) (hts _ lk_X3_chooseMove_6) cd_X4_at.2 ⟨Nat.le_of_ble_eq_true rfl, Nat.le_of_ble_eq_true rfl⟩, hts _ lk_X3_chooseMove_5, trivial⟩ hK hP [6] rfl rfl hl.1 rfl (Nat.le_of_ble_eq_true rfl) dX3_chooseMove_5 ⟨Nat.zero_le _, Nat.zero_le _⟩ ?_
  refine lv_istore_n (lv' := [(3, .int (aT 6 (kld c) p0)), (0, .ref a), (1, .ref (h 0)), (2, .int p0)]) hx hb dX3_chooseMove_8 rfl hl (by decide) rfl (fun ls hl => ?_)
  refine lv_aload_n hx hb dX3_chooseMove_9 rfl (lv_at hl 1 rfl) ?_
  refine lv_iload_n hx hb dX3_chooseMove_10 rfl (lv_at hl 0 rfl) ?_
  refine mcVv (rest := []) (wr := ((clT cI h c))) ⟨hx, hb, hml, hown, hts⟩ (c_X3_startBelow l G cI cQ a x (aT 6 (kld c) p0) _) (cwV 1 hts gX3_chooseMove_X3_startBelow rfl rfl rfl cd_X3_startBelow ⟨Nat.le_of_ble_eq_true rfl, Nat.le_of_ble_eq_true rfl⟩) hK hP hD hS hA [0] [1, 2, 3, 4, 5, 6, 7] rfl rfl (by decide) (by decide) (by decide) 0 rfl rfl rfl rfl hl.1 rfl (Nat.le_of_ble_eq_true rfl) dX3_chooseMove_11 ⟨Nat.zero_le _, Nat.zero_le _⟩ (fun _ H locs _ hP hD hS => ?_)
  have hP := hP.sub (ws' := (stT cI a (sStart x (aT 6 (kld c) p0))) ++ (clT cI h c)) [7, 0, 1, 2, 3, 4, 5, 6] rfl
  have hD := hD.sub (ws' := (stT cI a (sStart x (aT 6 (kld c) p0))) ++ (clT cI h c)) [7, 0, 1, 2, 3, 4, 5, 6] (by decide) rfl
  refine lv_iconst (v := 0) hx hb dX3_chooseMove_14 (by decide) ?_
  refine lv_istore (lv' := [(4, .int 0), (3, .int (aT 6 (kld c) p0)), (0, .ref a), (1, .ref (h 0)), (2, .int p0)]) hx hb dX3_chooseMove_15 hl (by decide) rfl (fun ls hl => ?_)
  have L17 : ∀ (n17 i17 : Nat), 0 ≤ i17 → i17 ≤ knj c → knj c + 1 ≤ i17 + n17 → ∀ (H : Heap) (locs : List Loc), va_P G vwCl ((stT cI a (mvOut c p0 x i17)) ++ (clT cI h c)) H → va_D A ((stT cI a (mvOut c p0 x i17)) ++ (clT cI h c)) → va_S A s.heap H locs → ∀ (ls : Array Slot), lv_has ls 8 [(4, .int (nI i17)), (3, .int (aT 6 (kld c) p0)), (0, .ref a), (1, .ref (h 0)), (2, .int p0)] → W p l e ({ frames := 1, cells := 0, slots := 0, locals := 60 } : Room) s m ([.ref a, .ref (h 0), .int p0] : List Value).toArray below meth cd H locs 0 0 (MQ below (va_Qv (fun (_ : Unit) => True) (mB G (A) (fun _ => (stT cI a (sChM c p0 x)) ++ (clT cI h c))) (A)) ([.ref a, .ref (h 0), .int p0] : List Value).toArray s 0 0 A) (F0 m 17 ls []) := by
    intro n17
    induction n17 with
    | zero => intro i17 h0 h1 h2; exact absurd h2 (by omega)
    | succ n17 ih17 =>
      intro i17 hlo17 hle17 hin17 H locs hP hD hS ls hl
      refine lv_iload hx hb dX3_chooseMove_17 (lv_at hl 0 rfl) ?_
      refine lv_aload_n hx hb dX3_chooseMove_19 rfl (lv_at hl 3 rfl) ?_
      refine va_getN (D := G) (ci := 0) (v := .int (nI (knj c))) (C := RX0) (T := TX0) (N := 13) hx hb hts in_X3_chooseMove_X0 hown hK.1 hP 1 rfl rfl 8 (by decide) (hK.2.f 13 rfl) (fun _ h9 => h9) rfl dX3_chooseMove_20 ?_
      refine lv_icmp_ge (tgt := 138) hx hb dX3_chooseMove_23 (by decide) (fun c_1 => ?_) (fun c_1 => ?_)
      · skip
        have q_2 : i17 = knj c := by have h9 := (nI_leI (by omega) (by omega)).mp c_1; omega
        subst q_2
        exact m_vret () hx hb hr hlocks trivial (by rw [show (sChM c p0 x) = (mvOut c p0 x (knj c)) from by first | rfl | (simp only [mvIn, mvOut, sChM, if_true, if_false, and_true, true_and, and_false, false_and, or_true, true_or, or_false, false_or, not_true_eq_false, not_false_eq_true, ne_eq, ite_true, ite_false]) | (simp only [mvIn, mvOut, sChM, if_true, if_false, and_true, true_and, and_false, false_and, or_true, true_or, or_false, false_or, not_true_eq_false, not_false_eq_true, ne_eq, ite_true, ite_false]; rfl)]; exact hP) (by rw [show (sChM c p0 x) = (mvOut c p0 x (knj c)) from by first | rfl | (simp only [mvIn, mvOut, sChM, if_true, if_false, and_true, true_and, and_false, false_and, or_true, true_or, or_false, false_or, not_true_eq_false, not_false_eq_true, ne_eq, ite_true, ite_false]) | (simp only [mvIn, mvOut, sChM, if_true, if_false, and_true, true_and, and_false, false_and, or_true, true_or, or_false, false_or, not_true_eq_false, not_false_eq_true, ne_eq, ite_true, ite_false]; rfl)]; exact hD) hS dX3_chooseMove_138
      · skip
        have hlt17 : i17 < knj c := Nat.lt_of_not_le (fun q => c_1 ((nI_leI (by omega) (by omega)).mpr q))
        refine lv_aload_n hx hb dX3_chooseMove_26 rfl (lv_at hl 3 rfl) ?_
        refine va_getN (D := G) (ci := 0) (v := .ref (h 3)) (C := RX0) (T := TX0) (N := 13) hx hb hts in_X3_chooseMove_X0 hown hK.1 hP 1 rfl rfl 2 (by decide) (hK.2.f 4 rfl) (fun _ h9 => h9) rfl dX3_chooseMove_27 ?_
        refine lv_iload hx hb dX3_chooseMove_30 (lv_at hl 0 rfl) ?_
        refine pcSN (rest := []) ⟨hx, hb, hml, hown, hts⟩ (c_X4_at l G cI cQ (h 3) 24 (kpl c) (nI i17) (by decide)) ⟨va_cnB 2 hts gX3_chooseMove_X4_at_n41 rfl rfl rfl (hK.2.m 7 rfl) (hts _ lk_X3_chooseMove_6) cd_X4_at.2 ⟨Nat.le_of_ble_eq_true rfl, Nat.le_of_ble_eq_true rfl⟩, hts _ lk_X3_chooseMove_5, trivial⟩ hK hP [4] rfl rfl hl.1 rfl (Nat.le_of_ble_eq_true rfl) dX3_chooseMove_32 ⟨Nat.zero_le _, Nat.zero_le _⟩ ?_
        refine lv_iload_n hx hb dX3_chooseMove_35 rfl (lv_at hl 4 rfl) ?_
        refine lv_icmp_eq (tgt := 42) hx hb dX3_chooseMove_36 (by decide) (fun c_3 => ?_) (fun c_3 => ?_)
        · skip
          refine lv_aload_n hx hb dX3_chooseMove_42 rfl (lv_at hl 3 rfl) ?_
          refine va_getN (D := G) (ci := 0) (v := .ref (h 1)) (C := RX0) (T := TX0) (N := 13) hx hb hts in_X3_chooseMove_X0 hown hK.1 hP 1 rfl rfl 0 (by decide) (hK.2.f 0 rfl) (fun _ h9 => h9) rfl dX3_chooseMove_43 ?_
          refine lv_iload hx hb dX3_chooseMove_46 (lv_at hl 0 rfl) ?_
          refine pcSN (rest := []) ⟨hx, hb, hml, hown, hts⟩ (c_X4_at l G cI cQ (h 1) 24 (ksz c) (nI i17) (by decide)) ⟨va_cnB 2 hts gX3_chooseMove_X4_at_n41 rfl rfl rfl (hK.2.m 7 rfl) (hts _ lk_X3_chooseMove_6) cd_X4_at.2 ⟨Nat.le_of_ble_eq_true rfl, Nat.le_of_ble_eq_true rfl⟩, hts _ lk_X3_chooseMove_5, trivial⟩ hK hP [2] rfl rfl hl.1 rfl (Nat.le_of_ble_eq_true rfl) dX3_chooseMove_48 ⟨Nat.zero_le _, Nat.zero_le _⟩ ?_
          refine lv_istore (lv' := [(5, .int (aT 24 (ksz c) (nI i17))), (4, .int (nI i17)), (3, .int (aT 6 (kld c) p0)), (0, .ref a), (1, .ref (h 0)), (2, .int p0)]) hx hb dX3_chooseMove_51 hl (by decide) rfl (fun ls hl => ?_)
          refine lv_iconst (v := 0) hx hb dX3_chooseMove_53 (by decide) ?_
          refine lv_istore (lv' := [(6, .int 0), (5, .int (aT 24 (ksz c) (nI i17))), (4, .int (nI i17)), (3, .int (aT 6 (kld c) p0)), (0, .ref a), (1, .ref (h 0)), (2, .int p0)]) hx hb dX3_chooseMove_54 hl (by decide) rfl (fun ls hl => ?_)
          have L56 : ∀ (n56 i56 : Nat), 0 ≤ i56 → i56 ≤ knv c → knv c + 1 ≤ i56 + n56 → ∀ (H : Heap) (locs : List Loc), va_P G vwCl ((stT cI a (mvIn c p0 (nI i17) (mvOut c p0 x i17) i56)) ++ (clT cI h c)) H → va_D A ((stT cI a (mvIn c p0 (nI i17) (mvOut c p0 x i17) i56)) ++ (clT cI h c)) → va_S A s.heap H locs → ∀ (ls : Array Slot), lv_has ls 8 [(6, .int (nI i56)), (5, .int (aT 24 (ksz c) (nI i17))), (4, .int (nI i17)), (3, .int (aT 6 (kld c) p0)), (0, .ref a), (1, .ref (h 0)), (2, .int p0)] → W p l e ({ frames := 1, cells := 0, slots := 0, locals := 60 } : Room) s m ([.ref a, .ref (h 0), .int p0] : List Value).toArray below meth cd H locs 0 0 (MQ below (va_Qv (fun (_ : Unit) => True) (mB G (A) (fun _ => (stT cI a (sChM c p0 x)) ++ (clT cI h c))) (A)) ([.ref a, .ref (h 0), .int p0] : List Value).toArray s 0 0 A) (F0 m 56 ls []) := by
            intro n56
            induction n56 with
            | zero => intro i56 h0 h1 h2; exact absurd h2 (by omega)
            | succ n56 ih56 =>
              intro i56 hlo56 hle56 hin56 H locs hP hD hS ls hl
              refine lv_iload hx hb dX3_chooseMove_56 (lv_at hl 0 rfl) ?_
              refine lv_aload_n hx hb dX3_chooseMove_58 rfl (lv_at hl 5 rfl) ?_
              refine va_getN (D := G) (ci := 0) (v := .int (nI (knv c))) (C := RX0) (T := TX0) (N := 13) hx hb hts in_X3_chooseMove_X0 hown hK.1 hP 1 rfl rfl 6 (by decide) (hK.2.f 10 rfl) (fun _ h9 => h9) rfl dX3_chooseMove_59 ?_
              refine lv_icmp_ge (tgt := 132) hx hb dX3_chooseMove_62 (by decide) (fun c_4 => ?_) (fun c_4 => ?_)
              · skip
                have q_5 : i56 = knv c := by have h9 := (nI_leI (by omega) (by omega)).mp c_4; omega
                subst q_5
                refine lv_iinc (v := (nI (i17 + 1))) (lv' := [(4, .int (nI (i17 + 1))), (6, .int (nI (knv c))), (5, .int (aT 24 (ksz c) (nI i17))), (3, .int (aT 6 (kld c) p0)), (0, .ref a), (1, .ref (h 0)), (2, .int p0)]) hx hb dX3_chooseMove_132 hl (k := 2) rfl (nI_1 i17) (by decide) rfl (fun ls hl => ?_)
                refine lv_goto (tgt := 17) hx hb dX3_chooseMove_135 (by decide) ?_
                have e_6 : (mvOut c p0 x (i17 + 1)) = (mvIn c p0 (nI i17) (mvOut c p0 x i17) (knv c)) := by first | rfl | (simp only [mvIn, mvOut, sChM, eq_true c_3, eq_true (Eq.symm c_3), if_true, if_false, and_true, true_and, and_false, false_and, or_true, true_or, or_false, false_or, not_true_eq_false, not_false_eq_true, ne_eq, ite_true, ite_false]) | (simp only [mvIn, mvOut, sChM, eq_true c_3, eq_true (Eq.symm c_3), if_true, if_false, and_true, true_and, and_false, false_and, or_true, true_or, or_false, false_or, not_true_eq_false, not_false_eq_true, ne_eq, ite_true, ite_false]; rfl)
                exact ih17 (i17 + 1) (by omega) (by omega) (by omega) _ _ (by rw [e_6]; exact hP) (by rw [e_6]; exact hD) hS ls (by exact lv_sub hl [0, 3, 4, 5, 6] rfl)
              · skip
                have hlt56 : i56 < knv c := Nat.lt_of_not_le (fun q => c_4 ((nI_leI (by omega) (by omega)).mpr q))
                refine lv_iload hx hb dX3_chooseMove_65 (lv_at hl 0 rfl) ?_
                refine lv_iload_n hx hb dX3_chooseMove_67 rfl (lv_at hl 6 rfl) ?_
                refine lv_icmp_eq (tgt := 126) hx hb dX3_chooseMove_68 (by decide) (fun c_7 => ?_) (fun c_7 => ?_)
                · skip
                  refine lv_iinc (v := (nI (i56 + 1))) (lv' := [(6, .int (nI (i56 + 1))), (5, .int (aT 24 (ksz c) (nI i17))), (4, .int (nI i17)), (3, .int (aT 6 (kld c) p0)), (0, .ref a), (1, .ref (h 0)), (2, .int p0)]) hx hb dX3_chooseMove_126 hl (k := 0) rfl (nI_1 i56) (by decide) rfl (fun ls hl => ?_)
                  refine lv_goto (tgt := 56) hx hb dX3_chooseMove_129 (by decide) ?_
                  have e_8 : (mvIn c p0 (nI i17) (mvOut c p0 x i17) (i56 + 1)) = (mvIn c p0 (nI i17) (mvOut c p0 x i17) i56) := by first | rfl | (simp only [mvIn, mvOut, sChM, eq_true c_3, eq_true (Eq.symm c_3), eq_true c_7, eq_true (Eq.symm c_7), if_true, if_false, and_true, true_and, and_false, false_and, or_true, true_or, or_false, false_or, not_true_eq_false, not_false_eq_true, ne_eq, ite_true, ite_false]) | (simp only [mvIn, mvOut, sChM, eq_true c_3, eq_true (Eq.symm c_3), eq_true c_7, eq_true (Eq.symm c_7), if_true, if_false, and_true, true_and, and_false, false_and, or_true, true_or, or_false, false_or, not_true_eq_false, not_false_eq_true, ne_eq, ite_true, ite_false]; rfl)
                  exact ih56 (i56 + 1) (by omega) (by omega) (by omega) _ _ (by rw [e_8]; exact hP) (by rw [e_8]; exact hD) hS ls (by exact lv_sub hl [0, 1, 2, 3, 4, 5, 6] rfl)
                · skip
                  refine lv_aload_n hx hb dX3_chooseMove_71 rfl (lv_at hl 5 rfl) ?_
                  refine va_getN (D := G) (ci := 0) (v := .ref (h 6)) (C := RX0) (T := TX0) (N := 13) hx hb hts in_X3_chooseMove_X0 hown hK.1 hP 1 rfl rfl 5 (by decide) (hK.2.f 9 rfl) (fun _ h9 => h9) rfl dX3_chooseMove_72 ?_
                  refine lv_iload hx hb dX3_chooseMove_75 (lv_at hl 0 rfl) ?_
                  refine pcSN (rest := []) ⟨hx, hb, hml, hown, hts⟩ (c_X4_at l G cI cQ (h 6) 6 (kop c) (nI i56) (by decide)) ⟨va_cnB 2 hts gX3_chooseMove_X4_at_n41 rfl rfl rfl (hK.2.m 7 rfl) (hts _ lk_X3_chooseMove_6) cd_X4_at.2 ⟨Nat.le_of_ble_eq_true rfl, Nat.le_of_ble_eq_true rfl⟩, hts _ lk_X3_chooseMove_5, trivial⟩ hK hP [7] rfl rfl hl.1 rfl (Nat.le_of_ble_eq_true rfl) dX3_chooseMove_77 ⟨Nat.zero_le _, Nat.zero_le _⟩ ?_
                  refine lv_iconst (v := 1) hx hb dX3_chooseMove_80 (by decide) ?_
                  refine lv_icmp_ne (tgt := 126) hx hb dX3_chooseMove_81 (by decide) (fun c_9 => ?_) (fun c_9 => ?_)
                  · skip
                    refine lv_iinc (v := (nI (i56 + 1))) (lv' := [(6, .int (nI (i56 + 1))), (5, .int (aT 24 (ksz c) (nI i17))), (4, .int (nI i17)), (3, .int (aT 6 (kld c) p0)), (0, .ref a), (1, .ref (h 0)), (2, .int p0)]) hx hb dX3_chooseMove_126 hl (k := 0) rfl (nI_1 i56) (by decide) rfl (fun ls hl => ?_)
                    refine lv_goto (tgt := 56) hx hb dX3_chooseMove_129 (by decide) ?_
                    have e_10 : (mvIn c p0 (nI i17) (mvOut c p0 x i17) (i56 + 1)) = (mvIn c p0 (nI i17) (mvOut c p0 x i17) i56) := by first | rfl | (simp only [mvIn, mvOut, sChM, eq_true c_3, eq_true (Eq.symm c_3), eq_false c_7, eq_false (Ne.symm c_7), eq_false c_9, eq_false (Ne.symm c_9), if_true, if_false, and_true, true_and, and_false, false_and, or_true, true_or, or_false, false_or, not_true_eq_false, not_false_eq_true, ne_eq, ite_true, ite_false]) | (simp only [mvIn, mvOut, sChM, eq_true c_3, eq_true (Eq.symm c_3), eq_false c_7, eq_false (Ne.symm c_7), eq_false c_9, eq_false (Ne.symm c_9), if_true, if_false, and_true, true_and, and_false, false_and, or_true, true_or, or_false, false_or, not_true_eq_false, not_false_eq_true, ne_eq, ite_true, ite_false]; rfl)
                    exact ih56 (i56 + 1) (by omega) (by omega) (by omega) _ _ (by rw [e_10]; exact hP) (by rw [e_10]; exact hD) hS ls (by exact lv_sub hl [0, 1, 2, 3, 4, 5, 6] rfl)
                  · skip
                    refine lv_iload_n hx hb dX3_chooseMove_84 rfl (lv_at hl 3 rfl) ?_
                    refine lv_iload hx hb dX3_chooseMove_85 (lv_at hl 1 rfl) ?_
                    refine lv_isub hx hb dX3_chooseMove_87 ?_
                    refine lv_aload_n hx hb dX3_chooseMove_88 rfl (lv_at hl 5 rfl) ?_
                    refine va_getN (D := G) (ci := 0) (v := .ref (h 5)) (C := RX0) (T := TX0) (N := 13) hx hb hts in_X3_chooseMove_X0 hown hK.1 hP 1 rfl rfl 4 (by decide) (hK.2.f 7 rfl) (fun _ h9 => h9) rfl dX3_chooseMove_89 ?_
                    refine lv_iload hx hb dX3_chooseMove_92 (lv_at hl 0 rfl) ?_
                    refine pcSN (rest := [.int ((aT 6 (kld c) p0) - (aT 24 (ksz c) (nI i17)))]) ⟨hx, hb, hml, hown, hts⟩ (c_X4_at l G cI cQ (h 5) 6 (kld c) (nI i56) (by decide)) ⟨va_cnB 2 hts gX3_chooseMove_X4_at_n41 rfl rfl rfl (hK.2.m 7 rfl) (hts _ lk_X3_chooseMove_6) cd_X4_at.2 ⟨Nat.le_of_ble_eq_true rfl, Nat.le_of_ble_eq_true rfl⟩, hts _ lk_X3_chooseMove_5, trivial⟩ hK hP [6] rfl rfl hl.1 rfl (Nat.le_of_ble_eq_true rfl) dX3_chooseMove_94 ⟨Nat.zero_le _, Nat.zero_le _⟩ ?_
                    refine lv_iload hx hb dX3_chooseMove_97 (lv_at hl 1 rfl) ?_
                    refine lv_iadd hx hb dX3_chooseMove_99 ?_
                    refine va_mmax hx hb (hml.trans hl.1.symm) hown (hts _ lk_X3_chooseMove_1) (hts _ lk_X3_chooseMove_2) (hts _ lk_X3_chooseMove_3) (hts _ lk_X3_chooseMove_4) (Nat.le_of_ble_eq_true rfl) (Nat.le_of_ble_eq_true rfl) (Nat.le_of_ble_eq_true rfl) (Nat.le_of_ble_eq_true rfl) dX3_chooseMove_100 ?_
                    refine lv_istore (lv' := [(7, .int (if ((aT 6 (kld c) p0) - (aT 24 (ksz c) (nI i17))) < ((aT 6 (kld c) (nI i56)) + (aT 24 (ksz c) (nI i17))) then ((aT 6 (kld c) (nI i56)) + (aT 24 (ksz c) (nI i17))) else ((aT 6 (kld c) p0) - (aT 24 (ksz c) (nI i17))))), (6, .int (nI i56)), (5, .int (aT 24 (ksz c) (nI i17))), (4, .int (nI i17)), (3, .int (aT 6 (kld c) p0)), (0, .ref a), (1, .ref (h 0)), (2, .int p0)]) hx hb dX3_chooseMove_103 hl (by decide) rfl (fun ls hl => ?_)
                    refine lv_aload_n hx hb dX3_chooseMove_105 rfl (lv_at hl 5 rfl) ?_
                    refine lv_iload hx hb dX3_chooseMove_106 (lv_at hl 3 rfl) ?_
                    refine lv_iload hx hb dX3_chooseMove_108 (lv_at hl 1 rfl) ?_
                    refine lv_bipush (v := (-9)) hx hb dX3_chooseMove_110 (by decide) ?_
                    refine lv_aload_n hx hb dX3_chooseMove_112 rfl (lv_at hl 6 rfl) ?_
                    refine va_getN (D := G) (ci := 0) (v := .ref (h 2)) (C := RX0) (T := TX0) (N := 13) hx hb hts in_X3_chooseMove_X0 hown hK.1 hP 1 rfl rfl 1 (by decide) (hK.2.f 2 rfl) (fun _ h9 => h9) rfl dX3_chooseMove_113 ?_
                    refine lv_iload hx hb dX3_chooseMove_116 (lv_at hl 3 rfl) ?_
                    refine pcSN (rest := [.int (-9), .int (nI i56), .int (nI i17), .ref a]) ⟨hx, hb, hml, hown, hts⟩ (c_X4_at l G cI cQ (h 2) 24 (kpr c) (nI i17) (by decide)) ⟨va_cnB 2 hts gX3_chooseMove_X4_at_n41 rfl rfl rfl (hK.2.m 7 rfl) (hts _ lk_X3_chooseMove_6) cd_X4_at.2 ⟨Nat.le_of_ble_eq_true rfl, Nat.le_of_ble_eq_true rfl⟩, hts _ lk_X3_chooseMove_5, trivial⟩ hK hP [3] rfl rfl hl.1 rfl (Nat.le_of_ble_eq_true rfl) dX3_chooseMove_118 ⟨Nat.zero_le _, Nat.zero_le _⟩ ?_
                    refine lv_iload hx hb dX3_chooseMove_121 (lv_at hl 0 rfl) ?_
                    refine mcVv (rest := []) (wr := ((clT cI h c))) ⟨hx, hb, hml, hown, hts⟩ (c_X3_offer l G cI cQ a (mvIn c p0 (nI i17) (mvOut c p0 x i17) i56) (nI i17) (nI i56) (-9) (aT 24 (kpr c) (nI i17)) (if ((aT 6 (kld c) p0) - (aT 24 (ksz c) (nI i17))) < ((aT 6 (kld c) (nI i56)) + (aT 24 (ksz c) (nI i17))) then ((aT 6 (kld c) (nI i56)) + (aT 24 (ksz c) (nI i17))) else ((aT 6 (kld c) p0) - (aT 24 (ksz c) (nI i17)))) _) (cwV 5 hts gX3_chooseMove_X3_offer rfl rfl rfl cd_X3_offer ⟨Nat.le_of_ble_eq_true rfl, Nat.le_of_ble_eq_true rfl⟩) hK hP hD hS hA [0] [1, 2, 3, 4, 5, 6, 7] rfl rfl (by decide) (by decide) (by decide) 0 rfl rfl rfl rfl hl.1 rfl (Nat.le_of_ble_eq_true rfl) dX3_chooseMove_123 ⟨Nat.zero_le _, Nat.zero_le _⟩ (fun _ H locs _ hP hD hS => ?_)
                    have hP := hP.sub (ws' := (stT cI a (sOffer (mvIn c p0 (nI i17) (mvOut c p0 x i17) i56) (nI i17) (nI i56) (-9) (aT 24 (kpr c) (nI i17)) (if ((aT 6 (kld c) p0) - (aT 24 (ksz c) (nI i17))) < ((aT 6 (kld c) (nI i56)) + (aT 24 (ksz c) (nI i17))) then ((aT 6 (kld c) (nI i56)) + (aT 24 (ksz c) (nI i17))) else ((aT 6 (kld c) p0) - (aT 24 (ksz c) (nI i17)))))) ++ (clT cI h c)) [7, 0, 1, 2, 3, 4, 5, 6] rfl
                    have hD := hD.sub (ws' := (stT cI a (sOffer (mvIn c p0 (nI i17) (mvOut c p0 x i17) i56) (nI i17) (nI i56) (-9) (aT 24 (kpr c) (nI i17)) (if ((aT 6 (kld c) p0) - (aT 24 (ksz c) (nI i17))) < ((aT 6 (kld c) (nI i56)) + (aT 24 (ksz c) (nI i17))) then ((aT 6 (kld c) (nI i56)) + (aT 24 (ksz c) (nI i17))) else ((aT 6 (kld c) p0) - (aT 24 (ksz c) (nI i17)))))) ++ (clT cI h c)) [7, 0, 1, 2, 3, 4, 5, 6] (by decide) rfl
                    refine lv_iinc (v := (nI (i56 + 1))) (lv' := [(6, .int (nI (i56 + 1))), (7, .int (if ((aT 6 (kld c) p0) - (aT 24 (ksz c) (nI i17))) < ((aT 6 (kld c) (nI i56)) + (aT 24 (ksz c) (nI i17))) then ((aT 6 (kld c) (nI i56)) + (aT 24 (ksz c) (nI i17))) else ((aT 6 (kld c) p0) - (aT 24 (ksz c) (nI i17))))), (5, .int (aT 24 (ksz c) (nI i17))), (4, .int (nI i17)), (3, .int (aT 6 (kld c) p0)), (0, .ref a), (1, .ref (h 0)), (2, .int p0)]) hx hb dX3_chooseMove_126 hl (k := 1) rfl (nI_1 i56) (by decide) rfl (fun ls hl => ?_)
                    refine lv_goto (tgt := 56) hx hb dX3_chooseMove_129 (by decide) ?_
                    have e_11 : (mvIn c p0 (nI i17) (mvOut c p0 x i17) (i56 + 1)) = (sOffer (mvIn c p0 (nI i17) (mvOut c p0 x i17) i56) (nI i17) (nI i56) (-9) (aT 24 (kpr c) (nI i17)) (if ((aT 6 (kld c) p0) - (aT 24 (ksz c) (nI i17))) < ((aT 6 (kld c) (nI i56)) + (aT 24 (ksz c) (nI i17))) then ((aT 6 (kld c) (nI i56)) + (aT 24 (ksz c) (nI i17))) else ((aT 6 (kld c) p0) - (aT 24 (ksz c) (nI i17))))) := by first | rfl | (simp only [mvIn, mvOut, sChM, eq_true c_3, eq_true (Eq.symm c_3), eq_false c_7, eq_false (Ne.symm c_7), eq_true c_9, eq_true (Eq.symm c_9), if_true, if_false, and_true, true_and, and_false, false_and, or_true, true_or, or_false, false_or, not_true_eq_false, not_false_eq_true, ne_eq, ite_true, ite_false]) | (simp only [mvIn, mvOut, sChM, eq_true c_3, eq_true (Eq.symm c_3), eq_false c_7, eq_false (Ne.symm c_7), eq_true c_9, eq_true (Eq.symm c_9), if_true, if_false, and_true, true_and, and_false, false_and, or_true, true_or, or_false, false_or, not_true_eq_false, not_false_eq_true, ne_eq, ite_true, ite_false]; rfl)
                    exact ih56 (i56 + 1) (by omega) (by omega) (by omega) _ _ (by rw [e_11]; exact hP) (by rw [e_11]; exact hD) hS ls (by exact lv_sub hl [0, 2, 3, 4, 5, 6, 7] rfl)
          have e_12 : (nI 0) = 0 := by first | rfl | decide
          have e_13 : (mvIn c p0 (nI i17) (mvOut c p0 x i17) 0) = (mvOut c p0 x i17) := by first | rfl | (simp only [mvIn, mvOut, sChM, eq_true c_3, eq_true (Eq.symm c_3), if_true, if_false, and_true, true_and, and_false, false_and, or_true, true_or, or_false, false_or, not_true_eq_false, not_false_eq_true, ne_eq, ite_true, ite_false]) | (simp only [mvIn, mvOut, sChM, eq_true c_3, eq_true (Eq.symm c_3), if_true, if_false, and_true, true_and, and_false, false_and, or_true, true_or, or_false, false_or, not_true_eq_false, not_false_eq_true, ne_eq, ite_true, ite_false]; rfl)
          exact L56 (knv c + 1) 0 (by omega) (by omega) (by omega) _ _ (by rw [e_13]; exact hP) (by rw [e_13]; exact hD) hS ls (by rw [e_12]; exact lv_sub hl [0, 1, 2, 3, 4, 5, 6] rfl)
        · skip
          refine lv_goto (tgt := 132) hx hb dX3_chooseMove_39 (by decide) ?_
          refine lv_iinc (v := (nI (i17 + 1))) (lv' := [(4, .int (nI (i17 + 1))), (3, .int (aT 6 (kld c) p0)), (0, .ref a), (1, .ref (h 0)), (2, .int p0)]) hx hb dX3_chooseMove_132 hl (k := 0) rfl (nI_1 i17) (by decide) rfl (fun ls hl => ?_)
          refine lv_goto (tgt := 17) hx hb dX3_chooseMove_135 (by decide) ?_
          have e_14 : (mvOut c p0 x (i17 + 1)) = (mvOut c p0 x i17) := by first | rfl | (simp only [mvIn, mvOut, sChM, eq_false c_3, eq_false (Ne.symm c_3), if_true, if_false, and_true, true_and, and_false, false_and, or_true, true_or, or_false, false_or, not_true_eq_false, not_false_eq_true, ne_eq, ite_true, ite_false]) | (simp only [mvIn, mvOut, sChM, eq_false c_3, eq_false (Ne.symm c_3), if_true, if_false, and_true, true_and, and_false, false_and, or_true, true_or, or_false, false_or, not_true_eq_false, not_false_eq_true, ne_eq, ite_true, ite_false]; rfl)
          exact ih17 (i17 + 1) (by omega) (by omega) (by omega) _ _ (by rw [e_14]; exact hP) (by rw [e_14]; exact hD) hS ls (by exact lv_sub hl [0, 1, 2, 3, 4] rfl)
  have e_15 : (nI 0) = 0 := by first | rfl | decide
  have e_16 : (mvOut c p0 x 0) = (sStart x (aT 6 (kld c) p0)) := by first | rfl | (simp only [mvIn, mvOut, sChM, if_true, if_false, and_true, true_and, and_false, false_and, or_true, true_or, or_false, false_or, not_true_eq_false, not_false_eq_true, ne_eq, ite_true, ite_false]) | (simp only [mvIn, mvOut, sChM, if_true, if_false, and_true, true_and, and_false, false_and, or_true, true_or, or_false, false_or, not_true_eq_false, not_false_eq_true, ne_eq, ite_true, ite_false]; rfl)
  exact L17 (knj c + 1) 0 (by omega) (by omega) (by omega) _ _ (by rw [e_16]; exact hP) (by rw [e_16]; exact hD) hS ls (by rw [e_15]; exact lv_sub hl [0, 1, 2, 3, 4] rfl)
theorem cd_X3_chooseMove : yX3_chooseMove.cls = RX3 ∧ yX3_chooseMove.cls ≠ "java/lang/invoke/MethodHandle" ∧ yX3_chooseMove.cls ≠ "java/lang/invoke/VarHandle" ∧ (parseMethodDescriptor yX3_chooseMove.desc).map (fun d => d.parameters.length) = some 2 := by decide +kernel
-- X3_chooseExchange
theorem lk_X3_chooseExchange_1 : Cond.methodLink RX3 85 Lib.Math.max.name ∈ wsX3_chooseExchange := List.mem_of_getElem? (i := 1) (by decide +kernel)
theorem lk_X3_chooseExchange_2 : Cond.static Lib.Math.max.name ∈ wsX3_chooseExchange := List.mem_of_getElem? (i := 2) (by decide +kernel)
theorem lk_X3_chooseExchange_3 : Cond.initialized "java/lang/Math" ∈ wsX3_chooseExchange := List.mem_of_getElem? (i := 3) (by decide +kernel)
theorem lk_X3_chooseExchange_4 : Cond.code Lib.Math.max.name Lib.Math.max.code 2 (some .int) ∈ wsX3_chooseExchange := List.mem_of_getElem? (i := 4) (by decide +kernel)
theorem lk_X3_chooseExchange_5 : Cond.static yX4_at ∈ wsX3_chooseExchange := List.mem_of_getElem? (i := 5) (by decide +kernel)
theorem lk_X3_chooseExchange_6 : Cond.initialized RX4 ∈ wsX3_chooseExchange := List.mem_of_getElem? (i := 6) (by decide +kernel)
theorem in_X3_chooseExchange_X0 : ∀ w ∈ wsX00, w ∈ wsX3_chooseExchange := by decide +kernel
set_option maxHeartbeats 4000000 in
set_option maxRecDepth 100000 in
theorem c_X3_chooseExchange (l : Launch) (G : va_G) (cI cQ : ClassId) (a : Nat) (x : SS) (h : Nat → Nat) (c : CS) (hv : knv c ≤ 6) (hj : knj c ≤ 24) (p0 : Int32) (sz0 : Nat) : Met l yX3_chooseExchange wsX3_chooseExchange ({ frames := 1, cells := 0, slots := 0, locals := 60 } : Room) (mPc G cI cQ [.ref a, .ref (h 0), .int p0] ((stT cI a x) ++ (clT cI h c)) sz0) (va_Qv (fun (_ : Unit) => True) (mB G (va_A ((stT cI a x) ++ (clT cI h c)) sz0) (fun _ => (stT cI a (sChE c p0 x)) ++ (clT cI h c))) (va_A ((stT cI a x) ++ (clT cI h c)) sz0)) 0 0 (va_A ((stT cI a x) ++ (clT cI h c)) sz0) := by
  refine mm_ofv (cc := cX3_chooseExchange) (maxL := 10) (ret := none) (own := RX3) (by decide) rfl rfl (Nat.le_of_ble_eq_true rfl) rfl ?_
  intro p e s m below meth cd ls A hx hb hr hts hown hlocks hml hA hK hP hD hS hl
  refine lv_aload_n hx hb dX3_chooseExchange_0 rfl (lv_at hl 1 rfl) ?_
  refine va_getN (D := G) (ci := 0) (v := .ref (h 5)) (C := RX0) (T := TX0) (N := 13) hx hb hts in_X3_chooseExchange_X0 hown hK.1 hP 1 rfl rfl 4 (by decide) (hK.2.f 7 rfl) (fun _ h9 => h9) rfl dX3_chooseExchange_1 ?_
  refine lv_iload_n hx hb dX3_chooseExchange_4 rfl (lv_at hl 2 rfl) ?_
  refine pcSN (rest := []) ⟨hx, hb, hml, hown, hts⟩ (c_X4_at l G cI cQ (h 5) 6 (kld c) p0 (by decide)) ⟨va_cnB 2 hts gX3_chooseExchange_X4_at_n41 rfl rfl rfl (hK.2.m 7 rfl) (hts _ lk_X3_chooseExchange_6) cd_X4_at.2 ⟨Nat.le_of_ble_eq_true rfl, Nat.le_of_ble_eq_true rfl⟩, hts _ lk_X3_chooseExchange_5, trivial⟩ hK hP [6] rfl rfl hl.1 rfl (Nat.le_of_ble_eq_true rfl) dX3_chooseExchange_5 ⟨Nat.zero_le _, Nat.zero_le _⟩ ?_
  refine lv_istore_n (lv' := [(3, .int (aT 6 (kld c) p0)), (0, .ref a), (1, .ref (h 0)), (2, .int p0)]) hx hb dX3_chooseExchange_8 rfl hl (by decide) rfl (fun ls hl => ?_)
  refine lv_aload_n hx hb dX3_chooseExchange_9 rfl (lv_at hl 1 rfl) ?_
  refine lv_iload_n hx hb dX3_chooseExchange_10 rfl (lv_at hl 0 rfl) ?_
  refine mcVv (rest := []) (wr := ((clT cI h c))) ⟨hx, hb, hml, hown, hts⟩ (c_X3_startBelow l G cI cQ a x (aT 6 (kld c) p0) _) (cwV 1 hts gX3_chooseExchange_X3_startBelow rfl rfl rfl cd_X3_startBelow ⟨Nat.le_of_ble_eq_true rfl, Nat.le_of_ble_eq_true rfl⟩) hK hP hD hS hA [0] [1, 2, 3, 4, 5, 6, 7] rfl rfl (by decide) (by decide) (by decide) 0 rfl rfl rfl rfl hl.1 rfl (Nat.le_of_ble_eq_true rfl) dX3_chooseExchange_11 ⟨Nat.zero_le _, Nat.zero_le _⟩ (fun _ H locs _ hP hD hS => ?_)
  have hP := hP.sub (ws' := (stT cI a (sStart x (aT 6 (kld c) p0))) ++ (clT cI h c)) [7, 0, 1, 2, 3, 4, 5, 6] rfl
  have hD := hD.sub (ws' := (stT cI a (sStart x (aT 6 (kld c) p0))) ++ (clT cI h c)) [7, 0, 1, 2, 3, 4, 5, 6] (by decide) rfl
  refine lv_iconst (v := 0) hx hb dX3_chooseExchange_14 (by decide) ?_
  refine lv_istore (lv' := [(4, .int 0), (3, .int (aT 6 (kld c) p0)), (0, .ref a), (1, .ref (h 0)), (2, .int p0)]) hx hb dX3_chooseExchange_15 hl (by decide) rfl (fun ls hl => ?_)
  have L17 : ∀ (n17 i17 : Nat), 0 ≤ i17 → i17 ≤ knj c → knj c + 1 ≤ i17 + n17 → ∀ (H : Heap) (locs : List Loc), va_P G vwCl ((stT cI a (exOut c p0 x i17)) ++ (clT cI h c)) H → va_D A ((stT cI a (exOut c p0 x i17)) ++ (clT cI h c)) → va_S A s.heap H locs → ∀ (ls : Array Slot), lv_has ls 10 [(4, .int (nI i17)), (3, .int (aT 6 (kld c) p0)), (0, .ref a), (1, .ref (h 0)), (2, .int p0)] → W p l e ({ frames := 1, cells := 0, slots := 0, locals := 60 } : Room) s m ([.ref a, .ref (h 0), .int p0] : List Value).toArray below meth cd H locs 0 0 (MQ below (va_Qv (fun (_ : Unit) => True) (mB G (A) (fun _ => (stT cI a (sChE c p0 x)) ++ (clT cI h c))) (A)) ([.ref a, .ref (h 0), .int p0] : List Value).toArray s 0 0 A) (F0 m 17 ls []) := by
    intro n17
    induction n17 with
    | zero => intro i17 h0 h1 h2; exact absurd h2 (by omega)
    | succ n17 ih17 =>
      intro i17 hlo17 hle17 hin17 H locs hP hD hS ls hl
      refine lv_iload hx hb dX3_chooseExchange_17 (lv_at hl 0 rfl) ?_
      refine lv_aload_n hx hb dX3_chooseExchange_19 rfl (lv_at hl 3 rfl) ?_
      refine va_getN (D := G) (ci := 0) (v := .int (nI (knj c))) (C := RX0) (T := TX0) (N := 13) hx hb hts in_X3_chooseExchange_X0 hown hK.1 hP 1 rfl rfl 8 (by decide) (hK.2.f 13 rfl) (fun _ h9 => h9) rfl dX3_chooseExchange_20 ?_
      refine lv_icmp_ge (tgt := 167) hx hb dX3_chooseExchange_23 (by decide) (fun c_1 => ?_) (fun c_1 => ?_)
      · skip
        have q_2 : i17 = knj c := by have h9 := (nI_leI (by omega) (by omega)).mp c_1; omega
        subst q_2
        exact m_vret () hx hb hr hlocks trivial (by rw [show (sChE c p0 x) = (exOut c p0 x (knj c)) from by first | rfl | (simp only [exIn, exOut, sChE, if_true, if_false, and_true, true_and, and_false, false_and, or_true, true_or, or_false, false_or, not_true_eq_false, not_false_eq_true, ne_eq, ite_true, ite_false]) | (simp only [exIn, exOut, sChE, if_true, if_false, and_true, true_and, and_false, false_and, or_true, true_or, or_false, false_or, not_true_eq_false, not_false_eq_true, ne_eq, ite_true, ite_false]; rfl)]; exact hP) (by rw [show (sChE c p0 x) = (exOut c p0 x (knj c)) from by first | rfl | (simp only [exIn, exOut, sChE, if_true, if_false, and_true, true_and, and_false, false_and, or_true, true_or, or_false, false_or, not_true_eq_false, not_false_eq_true, ne_eq, ite_true, ite_false]) | (simp only [exIn, exOut, sChE, if_true, if_false, and_true, true_and, and_false, false_and, or_true, true_or, or_false, false_or, not_true_eq_false, not_false_eq_true, ne_eq, ite_true, ite_false]; rfl)]; exact hD) hS dX3_chooseExchange_167
      · skip
        have hlt17 : i17 < knj c := Nat.lt_of_not_le (fun q => c_1 ((nI_leI (by omega) (by omega)).mpr q))
        refine lv_aload_n hx hb dX3_chooseExchange_26 rfl (lv_at hl 3 rfl) ?_
        refine va_getN (D := G) (ci := 0) (v := .ref (h 3)) (C := RX0) (T := TX0) (N := 13) hx hb hts in_X3_chooseExchange_X0 hown hK.1 hP 1 rfl rfl 2 (by decide) (hK.2.f 4 rfl) (fun _ h9 => h9) rfl dX3_chooseExchange_27 ?_
        refine lv_iload hx hb dX3_chooseExchange_30 (lv_at hl 0 rfl) ?_
        refine pcSN (rest := []) ⟨hx, hb, hml, hown, hts⟩ (c_X4_at l G cI cQ (h 3) 24 (kpl c) (nI i17) (by decide)) ⟨va_cnB 2 hts gX3_chooseExchange_X4_at_n41 rfl rfl rfl (hK.2.m 7 rfl) (hts _ lk_X3_chooseExchange_6) cd_X4_at.2 ⟨Nat.le_of_ble_eq_true rfl, Nat.le_of_ble_eq_true rfl⟩, hts _ lk_X3_chooseExchange_5, trivial⟩ hK hP [4] rfl rfl hl.1 rfl (Nat.le_of_ble_eq_true rfl) dX3_chooseExchange_32 ⟨Nat.zero_le _, Nat.zero_le _⟩ ?_
        refine lv_iload_n hx hb dX3_chooseExchange_35 rfl (lv_at hl 4 rfl) ?_
        refine lv_icmp_eq (tgt := 42) hx hb dX3_chooseExchange_36 (by decide) (fun c_3 => ?_) (fun c_3 => ?_)
        · skip
          refine lv_iconst (v := 0) hx hb dX3_chooseExchange_42 (by decide) ?_
          refine lv_istore (lv' := [(5, .int 0), (4, .int (nI i17)), (3, .int (aT 6 (kld c) p0)), (0, .ref a), (1, .ref (h 0)), (2, .int p0)]) hx hb dX3_chooseExchange_43 hl (by decide) rfl (fun ls hl => ?_)
          have L45 : ∀ (n45 i45 : Nat), 0 ≤ i45 → i45 ≤ knj c → knj c + 1 ≤ i45 + n45 → ∀ (H : Heap) (locs : List Loc), va_P G vwCl ((stT cI a (exIn c p0 (nI i17) (exOut c p0 x i17) i45)) ++ (clT cI h c)) H → va_D A ((stT cI a (exIn c p0 (nI i17) (exOut c p0 x i17) i45)) ++ (clT cI h c)) → va_S A s.heap H locs → ∀ (ls : Array Slot), lv_has ls 10 [(5, .int (nI i45)), (4, .int (nI i17)), (3, .int (aT 6 (kld c) p0)), (0, .ref a), (1, .ref (h 0)), (2, .int p0)] → W p l e ({ frames := 1, cells := 0, slots := 0, locals := 60 } : Room) s m ([.ref a, .ref (h 0), .int p0] : List Value).toArray below meth cd H locs 0 0 (MQ below (va_Qv (fun (_ : Unit) => True) (mB G (A) (fun _ => (stT cI a (sChE c p0 x)) ++ (clT cI h c))) (A)) ([.ref a, .ref (h 0), .int p0] : List Value).toArray s 0 0 A) (F0 m 45 ls []) := by
            intro n45
            induction n45 with
            | zero => intro i45 h0 h1 h2; exact absurd h2 (by omega)
            | succ n45 ih45 =>
              intro i45 hlo45 hle45 hin45 H locs hP hD hS ls hl
              refine lv_iload hx hb dX3_chooseExchange_45 (lv_at hl 0 rfl) ?_
              refine lv_aload_n hx hb dX3_chooseExchange_47 rfl (lv_at hl 4 rfl) ?_
              refine va_getN (D := G) (ci := 0) (v := .int (nI (knj c))) (C := RX0) (T := TX0) (N := 13) hx hb hts in_X3_chooseExchange_X0 hown hK.1 hP 1 rfl rfl 8 (by decide) (hK.2.f 13 rfl) (fun _ h9 => h9) rfl dX3_chooseExchange_48 ?_
              refine lv_icmp_ge (tgt := 161) hx hb dX3_chooseExchange_51 (by decide) (fun c_4 => ?_) (fun c_4 => ?_)
              · skip
                have q_5 : i45 = knj c := by have h9 := (nI_leI (by omega) (by omega)).mp c_4; omega
                subst q_5
                refine lv_iinc (v := (nI (i17 + 1))) (lv' := [(4, .int (nI (i17 + 1))), (5, .int (nI (knj c))), (3, .int (aT 6 (kld c) p0)), (0, .ref a), (1, .ref (h 0)), (2, .int p0)]) hx hb dX3_chooseExchange_161 hl (k := 1) rfl (nI_1 i17) (by decide) rfl (fun ls hl => ?_)
                refine lv_goto (tgt := 17) hx hb dX3_chooseExchange_164 (by decide) ?_
                have e_6 : (exOut c p0 x (i17 + 1)) = (exIn c p0 (nI i17) (exOut c p0 x i17) (knj c)) := by first | rfl | (simp only [exIn, exOut, sChE, eq_true c_3, eq_true (Eq.symm c_3), if_true, if_false, and_true, true_and, and_false, false_and, or_true, true_or, or_false, false_or, not_true_eq_false, not_false_eq_true, ne_eq, ite_true, ite_false]) | (simp only [exIn, exOut, sChE, eq_true c_3, eq_true (Eq.symm c_3), if_true, if_false, and_true, true_and, and_false, false_and, or_true, true_or, or_false, false_or, not_true_eq_false, not_false_eq_true, ne_eq, ite_true, ite_false]; rfl)
                exact ih17 (i17 + 1) (by omega) (by omega) (by omega) _ _ (by rw [e_6]; exact hP) (by rw [e_6]; exact hD) hS ls (by exact lv_sub hl [0, 2, 3, 4, 5] rfl)
              · skip
                have hlt45 : i45 < knj c := Nat.lt_of_not_le (fun q => c_4 ((nI_leI (by omega) (by omega)).mpr q))
                refine lv_aload_n hx hb dX3_chooseExchange_54 rfl (lv_at hl 4 rfl) ?_
                refine va_getN (D := G) (ci := 0) (v := .ref (h 3)) (C := RX0) (T := TX0) (N := 13) hx hb hts in_X3_chooseExchange_X0 hown hK.1 hP 1 rfl rfl 2 (by decide) (hK.2.f 4 rfl) (fun _ h9 => h9) rfl dX3_chooseExchange_55 ?_
                refine lv_iload hx hb dX3_chooseExchange_58 (lv_at hl 0 rfl) ?_
                refine pcSN (rest := []) ⟨hx, hb, hml, hown, hts⟩ (c_X4_at l G cI cQ (h 3) 24 (kpl c) (nI i45) (by decide)) ⟨va_cnB 2 hts gX3_chooseExchange_X4_at_n41 rfl rfl rfl (hK.2.m 7 rfl) (hts _ lk_X3_chooseExchange_6) cd_X4_at.2 ⟨Nat.le_of_ble_eq_true rfl, Nat.le_of_ble_eq_true rfl⟩, hts _ lk_X3_chooseExchange_5, trivial⟩ hK hP [4] rfl rfl hl.1 rfl (Nat.le_of_ble_eq_true rfl) dX3_chooseExchange_60 ⟨Nat.zero_le _, Nat.zero_le _⟩ ?_
                refine lv_istore (lv' := [(6, .int (aT 24 (kpl c) (nI i45))), (5, .int (nI i45)), (4, .int (nI i17)), (3, .int (aT 6 (kld c) p0)), (0, .ref a), (1, .ref (h 0)), (2, .int p0)]) hx hb dX3_chooseExchange_63 hl (by decide) rfl (fun ls hl => ?_)
                refine lv_iload hx hb dX3_chooseExchange_65 (lv_at hl 0 rfl) ?_
                refine lv_iload_n hx hb dX3_chooseExchange_67 rfl (lv_at hl 6 rfl) ?_
                refine lv_icmp_eq (tgt := 155) hx hb dX3_chooseExchange_68 (by decide) (fun c_7 => ?_) (fun c_7 => ?_)
                · skip
                  refine lv_iinc (v := (nI (i45 + 1))) (lv' := [(5, .int (nI (i45 + 1))), (6, .int (aT 24 (kpl c) (nI i45))), (4, .int (nI i17)), (3, .int (aT 6 (kld c) p0)), (0, .ref a), (1, .ref (h 0)), (2, .int p0)]) hx hb dX3_chooseExchange_155 hl (k := 1) rfl (nI_1 i45) (by decide) rfl (fun ls hl => ?_)
                  refine lv_goto (tgt := 45) hx hb dX3_chooseExchange_158 (by decide) ?_
                  have e_8 : (exIn c p0 (nI i17) (exOut c p0 x i17) (i45 + 1)) = (exIn c p0 (nI i17) (exOut c p0 x i17) i45) := by first | rfl | (simp only [exIn, exOut, sChE, eq_true c_3, eq_true (Eq.symm c_3), eq_true c_7, eq_true (Eq.symm c_7), if_true, if_false, and_true, true_and, and_false, false_and, or_true, true_or, or_false, false_or, not_true_eq_false, not_false_eq_true, ne_eq, ite_true, ite_false]) | (simp only [exIn, exOut, sChE, eq_true c_3, eq_true (Eq.symm c_3), eq_true c_7, eq_true (Eq.symm c_7), if_true, if_false, and_true, true_and, and_false, false_and, or_true, true_or, or_false, false_or, not_true_eq_false, not_false_eq_true, ne_eq, ite_true, ite_false]; rfl)
                  exact ih45 (i45 + 1) (by omega) (by omega) (by omega) _ _ (by rw [e_8]; exact hP) (by rw [e_8]; exact hD) hS ls (by exact lv_sub hl [0, 2, 3, 4, 5, 6] rfl)
                · skip
                  refine lv_iload hx hb dX3_chooseExchange_71 (lv_at hl 0 rfl) ?_
                  refine lv_bipush (v := (-9)) hx hb dX3_chooseExchange_73 (by decide) ?_
                  refine lv_icmp_eq (tgt := 155) hx hb dX3_chooseExchange_75 (by decide) (fun c_9 => ?_) (fun c_9 => ?_)
                  · skip
                    refine lv_iinc (v := (nI (i45 + 1))) (lv' := [(5, .int (nI (i45 + 1))), (6, .int (aT 24 (kpl c) (nI i45))), (4, .int (nI i17)), (3, .int (aT 6 (kld c) p0)), (0, .ref a), (1, .ref (h 0)), (2, .int p0)]) hx hb dX3_chooseExchange_155 hl (k := 1) rfl (nI_1 i45) (by decide) rfl (fun ls hl => ?_)
                    refine lv_goto (tgt := 45) hx hb dX3_chooseExchange_158 (by decide) ?_
                    have e_10 : (exIn c p0 (nI i17) (exOut c p0 x i17) (i45 + 1)) = (exIn c p0 (nI i17) (exOut c p0 x i17) i45) := by first | rfl | (simp only [exIn, exOut, sChE, eq_true c_3, eq_true (Eq.symm c_3), eq_false c_7, eq_false (Ne.symm c_7), eq_true c_9, eq_true (Eq.symm c_9), if_true, if_false, and_true, true_and, and_false, false_and, or_true, true_or, or_false, false_or, not_true_eq_false, not_false_eq_true, ne_eq, ite_true, ite_false]) | (simp only [exIn, exOut, sChE, eq_true c_3, eq_true (Eq.symm c_3), eq_false c_7, eq_false (Ne.symm c_7), eq_true c_9, eq_true (Eq.symm c_9), if_true, if_false, and_true, true_and, and_false, false_and, or_true, true_or, or_false, false_or, not_true_eq_false, not_false_eq_true, ne_eq, ite_true, ite_false]; rfl)
                    exact ih45 (i45 + 1) (by omega) (by omega) (by omega) _ _ (by rw [e_10]; exact hP) (by rw [e_10]; exact hD) hS ls (by exact lv_sub hl [0, 2, 3, 4, 5, 6] rfl)
                  · skip
                    refine lv_aload_n hx hb dX3_chooseExchange_78 rfl (lv_at hl 5 rfl) ?_
                    refine va_getN (D := G) (ci := 0) (v := .ref (h 1)) (C := RX0) (T := TX0) (N := 13) hx hb hts in_X3_chooseExchange_X0 hown hK.1 hP 1 rfl rfl 0 (by decide) (hK.2.f 0 rfl) (fun _ h9 => h9) rfl dX3_chooseExchange_79 ?_
                    refine lv_iload hx hb dX3_chooseExchange_82 (lv_at hl 2 rfl) ?_
                    refine pcSN (rest := []) ⟨hx, hb, hml, hown, hts⟩ (c_X4_at l G cI cQ (h 1) 24 (ksz c) (nI i17) (by decide)) ⟨va_cnB 2 hts gX3_chooseExchange_X4_at_n41 rfl rfl rfl (hK.2.m 7 rfl) (hts _ lk_X3_chooseExchange_6) cd_X4_at.2 ⟨Nat.le_of_ble_eq_true rfl, Nat.le_of_ble_eq_true rfl⟩, hts _ lk_X3_chooseExchange_5, trivial⟩ hK hP [2] rfl rfl hl.1 rfl (Nat.le_of_ble_eq_true rfl) dX3_chooseExchange_84 ⟨Nat.zero_le _, Nat.zero_le _⟩ ?_
                    refine lv_aload_n hx hb dX3_chooseExchange_87 rfl (lv_at hl 5 rfl) ?_
                    refine va_getN (D := G) (ci := 0) (v := .ref (h 1)) (C := RX0) (T := TX0) (N := 13) hx hb hts in_X3_chooseExchange_X0 hown hK.1 hP 1 rfl rfl 0 (by decide) (hK.2.f 0 rfl) (fun _ h9 => h9) rfl dX3_chooseExchange_88 ?_
                    refine lv_iload hx hb dX3_chooseExchange_91 (lv_at hl 1 rfl) ?_
                    refine pcSN (rest := [.int (aT 24 (ksz c) (nI i17))]) ⟨hx, hb, hml, hown, hts⟩ (c_X4_at l G cI cQ (h 1) 24 (ksz c) (nI i45) (by decide)) ⟨va_cnB 2 hts gX3_chooseExchange_X4_at_n41 rfl rfl rfl (hK.2.m 7 rfl) (hts _ lk_X3_chooseExchange_6) cd_X4_at.2 ⟨Nat.le_of_ble_eq_true rfl, Nat.le_of_ble_eq_true rfl⟩, hts _ lk_X3_chooseExchange_5, trivial⟩ hK hP [2] rfl rfl hl.1 rfl (Nat.le_of_ble_eq_true rfl) dX3_chooseExchange_93 ⟨Nat.zero_le _, Nat.zero_le _⟩ ?_
                    refine lv_isub hx hb dX3_chooseExchange_96 ?_
                    refine lv_istore (lv' := [(7, .int ((aT 24 (ksz c) (nI i17)) - (aT 24 (ksz c) (nI i45)))), (6, .int (aT 24 (kpl c) (nI i45))), (5, .int (nI i45)), (4, .int (nI i17)), (3, .int (aT 6 (kld c) p0)), (0, .ref a), (1, .ref (h 0)), (2, .int p0)]) hx hb dX3_chooseExchange_97 hl (by decide) rfl (fun ls hl => ?_)
                    refine lv_iload_n hx hb dX3_chooseExchange_99 rfl (lv_at hl 4 rfl) ?_
                    refine lv_iload hx hb dX3_chooseExchange_100 (lv_at hl 0 rfl) ?_
                    refine lv_isub hx hb dX3_chooseExchange_102 ?_
                    refine lv_aload_n hx hb dX3_chooseExchange_103 rfl (lv_at hl 6 rfl) ?_
                    refine va_getN (D := G) (ci := 0) (v := .ref (h 5)) (C := RX0) (T := TX0) (N := 13) hx hb hts in_X3_chooseExchange_X0 hown hK.1 hP 1 rfl rfl 4 (by decide) (hK.2.f 7 rfl) (fun _ h9 => h9) rfl dX3_chooseExchange_104 ?_
                    refine lv_iload hx hb dX3_chooseExchange_107 (lv_at hl 1 rfl) ?_
                    refine pcSN (rest := [.int ((aT 6 (kld c) p0) - ((aT 24 (ksz c) (nI i17)) - (aT 24 (ksz c) (nI i45))))]) ⟨hx, hb, hml, hown, hts⟩ (c_X4_at l G cI cQ (h 5) 6 (kld c) (aT 24 (kpl c) (nI i45)) (by decide)) ⟨va_cnB 2 hts gX3_chooseExchange_X4_at_n41 rfl rfl rfl (hK.2.m 7 rfl) (hts _ lk_X3_chooseExchange_6) cd_X4_at.2 ⟨Nat.le_of_ble_eq_true rfl, Nat.le_of_ble_eq_true rfl⟩, hts _ lk_X3_chooseExchange_5, trivial⟩ hK hP [6] rfl rfl hl.1 rfl (Nat.le_of_ble_eq_true rfl) dX3_chooseExchange_109 ⟨Nat.zero_le _, Nat.zero_le _⟩ ?_
                    refine lv_iload hx hb dX3_chooseExchange_112 (lv_at hl 0 rfl) ?_
                    refine lv_iadd hx hb dX3_chooseExchange_114 ?_
                    refine va_mmax hx hb (hml.trans hl.1.symm) hown (hts _ lk_X3_chooseExchange_1) (hts _ lk_X3_chooseExchange_2) (hts _ lk_X3_chooseExchange_3) (hts _ lk_X3_chooseExchange_4) (Nat.le_of_ble_eq_true rfl) (Nat.le_of_ble_eq_true rfl) (Nat.le_of_ble_eq_true rfl) (Nat.le_of_ble_eq_true rfl) dX3_chooseExchange_115 ?_
                    refine lv_istore (lv' := [(8, .int (if ((aT 6 (kld c) p0) - ((aT 24 (ksz c) (nI i17)) - (aT 24 (ksz c) (nI i45)))) < ((aT 6 (kld c) (aT 24 (kpl c) (nI i45))) + ((aT 24 (ksz c) (nI i17)) - (aT 24 (ksz c) (nI i45)))) then ((aT 6 (kld c) (aT 24 (kpl c) (nI i45))) + ((aT 24 (ksz c) (nI i17)) - (aT 24 (ksz c) (nI i45)))) else ((aT 6 (kld c) p0) - ((aT 24 (ksz c) (nI i17)) - (aT 24 (ksz c) (nI i45)))))), (7, .int ((aT 24 (ksz c) (nI i17)) - (aT 24 (ksz c) (nI i45)))), (6, .int (aT 24 (kpl c) (nI i45))), (5, .int (nI i45)), (4, .int (nI i17)), (3, .int (aT 6 (kld c) p0)), (0, .ref a), (1, .ref (h 0)), (2, .int p0)]) hx hb dX3_chooseExchange_118 hl (by decide) rfl (fun ls hl => ?_)
                    refine lv_aload_n hx hb dX3_chooseExchange_120 rfl (lv_at hl 7 rfl) ?_
                    refine va_getN (D := G) (ci := 0) (v := .ref (h 2)) (C := RX0) (T := TX0) (N := 13) hx hb hts in_X3_chooseExchange_X0 hown hK.1 hP 1 rfl rfl 1 (by decide) (hK.2.f 2 rfl) (fun _ h9 => h9) rfl dX3_chooseExchange_121 ?_
                    refine lv_iload hx hb dX3_chooseExchange_124 (lv_at hl 4 rfl) ?_
                    refine pcSN (rest := []) ⟨hx, hb, hml, hown, hts⟩ (c_X4_at l G cI cQ (h 2) 24 (kpr c) (nI i17) (by decide)) ⟨va_cnB 2 hts gX3_chooseExchange_X4_at_n41 rfl rfl rfl (hK.2.m 7 rfl) (hts _ lk_X3_chooseExchange_6) cd_X4_at.2 ⟨Nat.le_of_ble_eq_true rfl, Nat.le_of_ble_eq_true rfl⟩, hts _ lk_X3_chooseExchange_5, trivial⟩ hK hP [3] rfl rfl hl.1 rfl (Nat.le_of_ble_eq_true rfl) dX3_chooseExchange_126 ⟨Nat.zero_le _, Nat.zero_le _⟩ ?_
                    refine lv_aload_n hx hb dX3_chooseExchange_129 rfl (lv_at hl 7 rfl) ?_
                    refine va_getN (D := G) (ci := 0) (v := .ref (h 2)) (C := RX0) (T := TX0) (N := 13) hx hb hts in_X3_chooseExchange_X0 hown hK.1 hP 1 rfl rfl 1 (by decide) (hK.2.f 2 rfl) (fun _ h9 => h9) rfl dX3_chooseExchange_130 ?_
                    refine lv_iload hx hb dX3_chooseExchange_133 (lv_at hl 3 rfl) ?_
                    refine pcSN (rest := [.int (aT 24 (kpr c) (nI i17))]) ⟨hx, hb, hml, hown, hts⟩ (c_X4_at l G cI cQ (h 2) 24 (kpr c) (nI i45) (by decide)) ⟨va_cnB 2 hts gX3_chooseExchange_X4_at_n41 rfl rfl rfl (hK.2.m 7 rfl) (hts _ lk_X3_chooseExchange_6) cd_X4_at.2 ⟨Nat.le_of_ble_eq_true rfl, Nat.le_of_ble_eq_true rfl⟩, hts _ lk_X3_chooseExchange_5, trivial⟩ hK hP [3] rfl rfl hl.1 rfl (Nat.le_of_ble_eq_true rfl) dX3_chooseExchange_135 ⟨Nat.zero_le _, Nat.zero_le _⟩ ?_
                    refine lv_iadd hx hb dX3_chooseExchange_138 ?_
                    refine lv_istore (lv' := [(9, .int ((aT 24 (kpr c) (nI i17)) + (aT 24 (kpr c) (nI i45)))), (8, .int (if ((aT 6 (kld c) p0) - ((aT 24 (ksz c) (nI i17)) - (aT 24 (ksz c) (nI i45)))) < ((aT 6 (kld c) (aT 24 (kpl c) (nI i45))) + ((aT 24 (ksz c) (nI i17)) - (aT 24 (ksz c) (nI i45)))) then ((aT 6 (kld c) (aT 24 (kpl c) (nI i45))) + ((aT 24 (ksz c) (nI i17)) - (aT 24 (ksz c) (nI i45)))) else ((aT 6 (kld c) p0) - ((aT 24 (ksz c) (nI i17)) - (aT 24 (ksz c) (nI i45)))))), (7, .int ((aT 24 (ksz c) (nI i17)) - (aT 24 (ksz c) (nI i45)))), (6, .int (aT 24 (kpl c) (nI i45))), (5, .int (nI i45)), (4, .int (nI i17)), (3, .int (aT 6 (kld c) p0)), (0, .ref a), (1, .ref (h 0)), (2, .int p0)]) hx hb dX3_chooseExchange_139 hl (by decide) rfl (fun ls hl => ?_)
                    refine lv_aload_n hx hb dX3_chooseExchange_141 rfl (lv_at hl 7 rfl) ?_
                    refine lv_iload hx hb dX3_chooseExchange_142 (lv_at hl 5 rfl) ?_
                    refine lv_iload hx hb dX3_chooseExchange_144 (lv_at hl 3 rfl) ?_
                    refine lv_iload hx hb dX3_chooseExchange_146 (lv_at hl 4 rfl) ?_
                    refine lv_iload hx hb dX3_chooseExchange_148 (lv_at hl 0 rfl) ?_
                    refine lv_iload hx hb dX3_chooseExchange_150 (lv_at hl 1 rfl) ?_
                    refine mcVv (rest := []) (wr := ((clT cI h c))) ⟨hx, hb, hml, hown, hts⟩ (c_X3_offer l G cI cQ a (exIn c p0 (nI i17) (exOut c p0 x i17) i45) (nI i17) (aT 24 (kpl c) (nI i45)) (nI i45) ((aT 24 (kpr c) (nI i17)) + (aT 24 (kpr c) (nI i45))) (if ((aT 6 (kld c) p0) - ((aT 24 (ksz c) (nI i17)) - (aT 24 (ksz c) (nI i45)))) < ((aT 6 (kld c) (aT 24 (kpl c) (nI i45))) + ((aT 24 (ksz c) (nI i17)) - (aT 24 (ksz c) (nI i45)))) then ((aT 6 (kld c) (aT 24 (kpl c) (nI i45))) + ((aT 24 (ksz c) (nI i17)) - (aT 24 (ksz c) (nI i45)))) else ((aT 6 (kld c) p0) - ((aT 24 (ksz c) (nI i17)) - (aT 24 (ksz c) (nI i45))))) _) (cwV 5 hts gX3_chooseExchange_X3_offer rfl rfl rfl cd_X3_offer ⟨Nat.le_of_ble_eq_true rfl, Nat.le_of_ble_eq_true rfl⟩) hK hP hD hS hA [0] [1, 2, 3, 4, 5, 6, 7] rfl rfl (by decide) (by decide) (by decide) 0 rfl rfl rfl rfl hl.1 rfl (Nat.le_of_ble_eq_true rfl) dX3_chooseExchange_152 ⟨Nat.zero_le _, Nat.zero_le _⟩ (fun _ H locs _ hP hD hS => ?_)
                    have hP := hP.sub (ws' := (stT cI a (sOffer (exIn c p0 (nI i17) (exOut c p0 x i17) i45) (nI i17) (aT 24 (kpl c) (nI i45)) (nI i45) ((aT 24 (kpr c) (nI i17)) + (aT 24 (kpr c) (nI i45))) (if ((aT 6 (kld c) p0) - ((aT 24 (ksz c) (nI i17)) - (aT 24 (ksz c) (nI i45)))) < ((aT 6 (kld c) (aT 24 (kpl c) (nI i45))) + ((aT 24 (ksz c) (nI i17)) - (aT 24 (ksz c) (nI i45)))) then ((aT 6 (kld c) (aT 24 (kpl c) (nI i45))) + ((aT 24 (ksz c) (nI i17)) - (aT 24 (ksz c) (nI i45)))) else ((aT 6 (kld c) p0) - ((aT 24 (ksz c) (nI i17)) - (aT 24 (ksz c) (nI i45))))))) ++ (clT cI h c)) [7, 0, 1, 2, 3, 4, 5, 6] rfl
                    have hD := hD.sub (ws' := (stT cI a (sOffer (exIn c p0 (nI i17) (exOut c p0 x i17) i45) (nI i17) (aT 24 (kpl c) (nI i45)) (nI i45) ((aT 24 (kpr c) (nI i17)) + (aT 24 (kpr c) (nI i45))) (if ((aT 6 (kld c) p0) - ((aT 24 (ksz c) (nI i17)) - (aT 24 (ksz c) (nI i45)))) < ((aT 6 (kld c) (aT 24 (kpl c) (nI i45))) + ((aT 24 (ksz c) (nI i17)) - (aT 24 (ksz c) (nI i45)))) then ((aT 6 (kld c) (aT 24 (kpl c) (nI i45))) + ((aT 24 (ksz c) (nI i17)) - (aT 24 (ksz c) (nI i45)))) else ((aT 6 (kld c) p0) - ((aT 24 (ksz c) (nI i17)) - (aT 24 (ksz c) (nI i45))))))) ++ (clT cI h c)) [7, 0, 1, 2, 3, 4, 5, 6] (by decide) rfl
                    refine lv_iinc (v := (nI (i45 + 1))) (lv' := [(5, .int (nI (i45 + 1))), (9, .int ((aT 24 (kpr c) (nI i17)) + (aT 24 (kpr c) (nI i45)))), (8, .int (if ((aT 6 (kld c) p0) - ((aT 24 (ksz c) (nI i17)) - (aT 24 (ksz c) (nI i45)))) < ((aT 6 (kld c) (aT 24 (kpl c) (nI i45))) + ((aT 24 (ksz c) (nI i17)) - (aT 24 (ksz c) (nI i45)))) then ((aT 6 (kld c) (aT 24 (kpl c) (nI i45))) + ((aT 24 (ksz c) (nI i17)) - (aT 24 (ksz c) (nI i45)))) else ((aT 6 (kld c) p0) - ((aT 24 (ksz c) (nI i17)) - (aT 24 (ksz c) (nI i45)))))), (7, .int ((aT 24 (ksz c) (nI i17)) - (aT 24 (ksz c) (nI i45)))), (6, .int (aT 24 (kpl c) (nI i45))), (4, .int (nI i17)), (3, .int (aT 6 (kld c) p0)), (0, .ref a), (1, .ref (h 0)), (2, .int p0)]) hx hb dX3_chooseExchange_155 hl (k := 4) rfl (nI_1 i45) (by decide) rfl (fun ls hl => ?_)
                    refine lv_goto (tgt := 45) hx hb dX3_chooseExchange_158 (by decide) ?_
                    have e_11 : (exIn c p0 (nI i17) (exOut c p0 x i17) (i45 + 1)) = (sOffer (exIn c p0 (nI i17) (exOut c p0 x i17) i45) (nI i17) (aT 24 (kpl c) (nI i45)) (nI i45) ((aT 24 (kpr c) (nI i17)) + (aT 24 (kpr c) (nI i45))) (if ((aT 6 (kld c) p0) - ((aT 24 (ksz c) (nI i17)) - (aT 24 (ksz c) (nI i45)))) < ((aT 6 (kld c) (aT 24 (kpl c) (nI i45))) + ((aT 24 (ksz c) (nI i17)) - (aT 24 (ksz c) (nI i45)))) then ((aT 6 (kld c) (aT 24 (kpl c) (nI i45))) + ((aT 24 (ksz c) (nI i17)) - (aT 24 (ksz c) (nI i45)))) else ((aT 6 (kld c) p0) - ((aT 24 (ksz c) (nI i17)) - (aT 24 (ksz c) (nI i45)))))) := by first | rfl | (simp only [exIn, exOut, sChE, eq_true c_3, eq_true (Eq.symm c_3), eq_false c_7, eq_false (Ne.symm c_7), eq_false c_9, eq_false (Ne.symm c_9), if_true, if_false, and_true, true_and, and_false, false_and, or_true, true_or, or_false, false_or, not_true_eq_false, not_false_eq_true, ne_eq, ite_true, ite_false]) | (simp only [exIn, exOut, sChE, eq_true c_3, eq_true (Eq.symm c_3), eq_false c_7, eq_false (Ne.symm c_7), eq_false c_9, eq_false (Ne.symm c_9), if_true, if_false, and_true, true_and, and_false, false_and, or_true, true_or, or_false, false_or, not_true_eq_false, not_false_eq_true, ne_eq, ite_true, ite_false]; rfl)
                    exact ih45 (i45 + 1) (by omega) (by omega) (by omega) _ _ (by rw [e_11]; exact hP) (by rw [e_11]; exact hD) hS ls (by exact lv_sub hl [0, 5, 6, 7, 8, 9] rfl)
          have e_12 : (nI 0) = 0 := by first | rfl | decide
          have e_13 : (exIn c p0 (nI i17) (exOut c p0 x i17) 0) = (exOut c p0 x i17) := by first | rfl | (simp only [exIn, exOut, sChE, eq_true c_3, eq_true (Eq.symm c_3), if_true, if_false, and_true, true_and, and_false, false_and, or_true, true_or, or_false, false_or, not_true_eq_false, not_false_eq_true, ne_eq, ite_true, ite_false]) | (simp only [exIn, exOut, sChE, eq_true c_3, eq_true (Eq.symm c_3), if_true, if_false, and_true, true_and, and_false, false_and, or_true, true_or, or_false, false_or, not_true_eq_false, not_false_eq_true, ne_eq, ite_true, ite_false]; rfl)
          exact L45 (knj c + 1) 0 (by omega) (by omega) (by omega) _ _ (by rw [e_13]; exact hP) (by rw [e_13]; exact hD) hS ls (by rw [e_12]; exact lv_sub hl [0, 1, 2, 3, 4, 5] rfl)
        · skip
          refine lv_goto (tgt := 161) hx hb dX3_chooseExchange_39 (by decide) ?_
          refine lv_iinc (v := (nI (i17 + 1))) (lv' := [(4, .int (nI (i17 + 1))), (3, .int (aT 6 (kld c) p0)), (0, .ref a), (1, .ref (h 0)), (2, .int p0)]) hx hb dX3_chooseExchange_161 hl (k := 0) rfl (nI_1 i17) (by decide) rfl (fun ls hl => ?_)
          refine lv_goto (tgt := 17) hx hb dX3_chooseExchange_164 (by decide) ?_
          have e_14 : (exOut c p0 x (i17 + 1)) = (exOut c p0 x i17) := by first | rfl | (simp only [exIn, exOut, sChE, eq_false c_3, eq_false (Ne.symm c_3), if_true, if_false, and_true, true_and, and_false, false_and, or_true, true_or, or_false, false_or, not_true_eq_false, not_false_eq_true, ne_eq, ite_true, ite_false]) | (simp only [exIn, exOut, sChE, eq_false c_3, eq_false (Ne.symm c_3), if_true, if_false, and_true, true_and, and_false, false_and, or_true, true_or, or_false, false_or, not_true_eq_false, not_false_eq_true, ne_eq, ite_true, ite_false]; rfl)
          exact ih17 (i17 + 1) (by omega) (by omega) (by omega) _ _ (by rw [e_14]; exact hP) (by rw [e_14]; exact hD) hS ls (by exact lv_sub hl [0, 1, 2, 3, 4] rfl)
  have e_15 : (nI 0) = 0 := by first | rfl | decide
  have e_16 : (exOut c p0 x 0) = (sStart x (aT 6 (kld c) p0)) := by first | rfl | (simp only [exIn, exOut, sChE, if_true, if_false, and_true, true_and, and_false, false_and, or_true, true_or, or_false, false_or, not_true_eq_false, not_false_eq_true, ne_eq, ite_true, ite_false]) | (simp only [exIn, exOut, sChE, if_true, if_false, and_true, true_and, and_false, false_and, or_true, true_or, or_false, false_or, not_true_eq_false, not_false_eq_true, ne_eq, ite_true, ite_false]; rfl)
  exact L17 (knj c + 1) 0 (by omega) (by omega) (by omega) _ _ (by rw [e_16]; exact hP) (by rw [e_16]; exact hD) hS ls (by rw [e_15]; exact lv_sub hl [0, 1, 2, 3, 4] rfl)
theorem cd_X3_chooseExchange : yX3_chooseExchange.cls = RX3 ∧ yX3_chooseExchange.cls ≠ "java/lang/invoke/MethodHandle" ∧ yX3_chooseExchange.cls ≠ "java/lang/invoke/VarHandle" ∧ (parseMethodDescriptor yX3_chooseExchange.desc).map (fun d => d.parameters.length) = some 2 := by decide +kernel
-- X3_choose
theorem lk_X3_choose_9 : Cond.static yX4_at ∈ wsX3_choose := List.mem_of_getElem? (i := 9) (by decide +kernel)
theorem lk_X3_choose_10 : Cond.initialized RX4 ∈ wsX3_choose := List.mem_of_getElem? (i := 10) (by decide +kernel)
theorem in_X3_choose_X0 : ∀ w ∈ wsX00, w ∈ wsX3_choose := by decide +kernel
set_option maxHeartbeats 4000000 in
set_option maxRecDepth 100000 in
theorem c_X3_choose (l : Launch) (G : va_G) (cI cQ : ClassId) (a : Nat) (x : SS) (h : Nat → Nat) (c : CS) (hv : knv c ≤ 6) (hj : knj c ≤ 24) (p0 : Int32) (sz0 : Nat) : Met l yX3_choose wsX3_choose ({ frames := 2, cells := 0, slots := 0, locals := 89 } : Room) (mPc G cI cQ [.ref a, .ref (h 0), .int p0] ((stT cI a x) ++ (clT cI h c)) sz0) (va_Qi (fun (r : Int32) (_ : Unit) => r = bI (pChoose c p0 x)) (mB G (va_A ((stT cI a x) ++ (clT cI h c)) sz0) (fun _ => (stT cI a (sChoose c p0 x)) ++ (clT cI h c))) (va_A ((stT cI a x) ++ (clT cI h c)) sz0)) 0 0 (va_A ((stT cI a x) ++ (clT cI h c)) sz0) := by
  refine mm_of (cc := cX3_choose) (maxL := 4) (ret := (some .boolean)) (own := RX3) (by decide) rfl rfl (Nat.le_of_ble_eq_true rfl) rfl ?_
  intro p e s m below meth cd ls A hx hb hr hts hown hlocks hml hA hK hP hD hS hl
  refine lv_aload_n hx hb dX3_choose_0 rfl (lv_at hl 1 rfl) ?_
  refine pcV (rest := []) ⟨hx, hb, hml, hown, hts⟩ (c_X0_fullestServer l G cI cQ h c hv hj) (cwV 0 hts gX3_choose_X0_fullestServer rfl rfl rfl cd_X0_fullestServer ⟨Nat.le_of_ble_eq_true rfl, Nat.le_of_ble_eq_true rfl⟩) hK hP [1, 2, 3, 4, 5, 6, 7] rfl 1 rfl rfl rfl rfl hl.1 rfl (Nat.le_of_ble_eq_true rfl) dX3_choose_1 ⟨Nat.zero_le _, Nat.zero_le _⟩ ?_
  refine lv_istore_n (lv' := [(3, .int (sFull c)), (0, .ref a), (1, .ref (h 0)), (2, .int p0)]) hx hb dX3_choose_4 rfl hl (by decide) rfl (fun ls hl => ?_)
  refine lv_aload_n hx hb dX3_choose_5 rfl (lv_at hl 2 rfl) ?_
  refine va_getN (D := G) (ci := 0) (v := .ref (h 5)) (C := RX0) (T := TX0) (N := 13) hx hb hts in_X3_choose_X0 hown hK.1 hP 1 rfl rfl 4 (by decide) (hK.2.f 7 rfl) (fun _ h9 => h9) rfl dX3_choose_6 ?_
  refine lv_iload_n hx hb dX3_choose_9 rfl (lv_at hl 0 rfl) ?_
  refine pcSN (rest := []) ⟨hx, hb, hml, hown, hts⟩ (c_X4_at l G cI cQ (h 5) 6 (kld c) (sFull c) (by decide)) ⟨va_cnB 2 hts gX3_choose_X4_at_n41 rfl rfl rfl (hK.2.m 7 rfl) (hts _ lk_X3_choose_10) cd_X4_at.2 ⟨Nat.le_of_ble_eq_true rfl, Nat.le_of_ble_eq_true rfl⟩, hts _ lk_X3_choose_9, trivial⟩ hK hP [6] rfl rfl hl.1 rfl (Nat.le_of_ble_eq_true rfl) dX3_choose_10 ⟨Nat.zero_le _, Nat.zero_le _⟩ ?_
  refine lv_iload_n hx hb dX3_choose_13 rfl (lv_at hl 3 rfl) ?_
  refine lv_icmp_gt (tgt := 19) hx hb dX3_choose_14 (by decide) (fun c_1 => ?_) (fun c_1 => ?_)
  · skip
    refine lv_aload_n hx hb dX3_choose_19 rfl (lv_at hl 1 rfl) ?_
    refine lv_aload_n hx hb dX3_choose_20 rfl (lv_at hl 2 rfl) ?_
    refine lv_iload_n hx hb dX3_choose_21 rfl (lv_at hl 0 rfl) ?_
    refine mcVv (rest := []) (wr := []) ⟨hx, hb, hml, hown, hts⟩ (c_X3_chooseMove l G cI cQ a x h c hv hj (sFull c) _) (cwV 2 hts gX3_choose_X3_chooseMove rfl rfl rfl cd_X3_chooseMove ⟨Nat.le_of_ble_eq_true rfl, Nat.le_of_ble_eq_true rfl⟩) hK hP hD hS hA [0, 1, 2, 3, 4, 5, 6, 7] [] rfl rfl (by decide) (by decide) (by decide) 0 rfl rfl rfl rfl hl.1 rfl (Nat.le_of_ble_eq_true rfl) dX3_choose_22 ⟨Nat.zero_le _, Nat.zero_le _⟩ (fun _ H locs _ hP hD hS => ?_)
    have hP : va_P G vwCl ((stT cI a (sChM c (sFull c) x)) ++ (clT cI h c)) H := hP
    have hD : va_D A ((stT cI a (sChM c (sFull c) x)) ++ (clT cI h c)) := hD
    refine lv_aload_n hx hb dX3_choose_25 rfl (lv_at hl 1 rfl) ?_
    refine lv_aload_n hx hb dX3_choose_26 rfl (lv_at hl 2 rfl) ?_
    refine pcV (rest := []) ⟨hx, hb, hml, hown, hts⟩ (c_X3_isPossible l G cI cQ a (sChM c (sFull c) x) h c hv hj) (cwV 1 hts gX3_choose_X3_isPossible rfl rfl rfl cd_X3_isPossible ⟨Nat.le_of_ble_eq_true rfl, Nat.le_of_ble_eq_true rfl⟩) hK hP [0, 1, 2, 3, 4, 5, 6, 7] rfl 0 rfl rfl rfl rfl hl.1 rfl (Nat.le_of_ble_eq_true rfl) dX3_choose_27 ⟨Nat.zero_le _, Nat.zero_le _⟩ ?_
    refine lv_if_eq (tgt := 35) hx hb dX3_choose_30 (by decide) (fun c_2 => ?_) (fun c_2 => ?_)
    · skip
      have c_2 := bI_0.mp c_2
      refine lv_aload_n hx hb dX3_choose_35 rfl (lv_at hl 1 rfl) ?_
      refine lv_aload_n hx hb dX3_choose_36 rfl (lv_at hl 2 rfl) ?_
      refine lv_iload_n hx hb dX3_choose_37 rfl (lv_at hl 0 rfl) ?_
      refine mcVv (rest := []) (wr := []) ⟨hx, hb, hml, hown, hts⟩ (c_X3_chooseExchange l G cI cQ a (sChM c (sFull c) x) h c hv hj (sFull c) _) (cwV 2 hts gX3_choose_X3_chooseExchange rfl rfl rfl cd_X3_chooseExchange ⟨Nat.le_of_ble_eq_true rfl, Nat.le_of_ble_eq_true rfl⟩) hK hP hD hS hA [0, 1, 2, 3, 4, 5, 6, 7] [] rfl rfl (by decide) (by decide) (by decide) 0 rfl rfl rfl rfl hl.1 rfl (Nat.le_of_ble_eq_true rfl) dX3_choose_38 ⟨Nat.zero_le _, Nat.zero_le _⟩ (fun _ H locs _ hP hD hS => ?_)
      have hP : va_P G vwCl ((stT cI a (sChE c (sFull c) (sChM c (sFull c) x))) ++ (clT cI h c)) H := hP
      have hD : va_D A ((stT cI a (sChE c (sFull c) (sChM c (sFull c) x))) ++ (clT cI h c)) := hD
      refine lv_aload_n hx hb dX3_choose_41 rfl (lv_at hl 1 rfl) ?_
      refine lv_aload_n hx hb dX3_choose_42 rfl (lv_at hl 2 rfl) ?_
      refine pcV (rest := []) ⟨hx, hb, hml, hown, hts⟩ (c_X3_isPossible l G cI cQ a (sChE c (sFull c) (sChM c (sFull c) x)) h c hv hj) (cwV 1 hts gX3_choose_X3_isPossible rfl rfl rfl cd_X3_isPossible ⟨Nat.le_of_ble_eq_true rfl, Nat.le_of_ble_eq_true rfl⟩) hK hP [0, 1, 2, 3, 4, 5, 6, 7] rfl 0 rfl rfl rfl rfl hl.1 rfl (Nat.le_of_ble_eq_true rfl) dX3_choose_43 ⟨Nat.zero_le _, Nat.zero_le _⟩ ?_
      exact m_ret () hx hb hr hlocks bI_nar (by first | rfl | (simp only [bI, pChoose, sChoose, eq_true c_1, eq_false (Int32.not_le.mpr c_1), eq_false c_2, if_true, if_false, and_true, true_and, and_false, false_and, or_true, true_or, or_false, false_or, not_true_eq_false, not_false_eq_true, ne_eq, ite_true, ite_false]) | (simp only [bI, pChoose, sChoose, eq_true c_1, eq_false (Int32.not_le.mpr c_1), eq_false c_2, if_true, if_false, and_true, true_and, and_false, false_and, or_true, true_or, or_false, false_or, not_true_eq_false, not_false_eq_true, ne_eq, ite_true, ite_false]; rfl)) (by rw [show (sChoose c p0 x) = (sChE c (sFull c) (sChM c (sFull c) x)) from by first | rfl | (simp only [bI, pChoose, sChoose, eq_true c_1, eq_false (Int32.not_le.mpr c_1), eq_false c_2, if_true, if_false, and_true, true_and, and_false, false_and, or_true, true_or, or_false, false_or, not_true_eq_false, not_false_eq_true, ne_eq, ite_true, ite_false]) | (simp only [bI, pChoose, sChoose, eq_true c_1, eq_false (Int32.not_le.mpr c_1), eq_false c_2, if_true, if_false, and_true, true_and, and_false, false_and, or_true, true_or, or_false, false_or, not_true_eq_false, not_false_eq_true, ne_eq, ite_true, ite_false]; rfl)]; exact hP) (by rw [show (sChoose c p0 x) = (sChE c (sFull c) (sChM c (sFull c) x)) from by first | rfl | (simp only [bI, pChoose, sChoose, eq_true c_1, eq_false (Int32.not_le.mpr c_1), eq_false c_2, if_true, if_false, and_true, true_and, and_false, false_and, or_true, true_or, or_false, false_or, not_true_eq_false, not_false_eq_true, ne_eq, ite_true, ite_false]) | (simp only [bI, pChoose, sChoose, eq_true c_1, eq_false (Int32.not_le.mpr c_1), eq_false c_2, if_true, if_false, and_true, true_and, and_false, false_and, or_true, true_or, or_false, false_or, not_true_eq_false, not_false_eq_true, ne_eq, ite_true, ite_false]; rfl)]; exact hD) hS dX3_choose_46
    · skip
      have c_2 := bI_n0.mp c_2
      refine lv_iconst (v := 1) hx hb dX3_choose_33 (by decide) ?_
      exact m_ret () hx hb hr hlocks rfl (by first | rfl | (simp only [bI, pChoose, sChoose, eq_true c_1, eq_false (Int32.not_le.mpr c_1), eq_true c_2, if_true, if_false, and_true, true_and, and_false, false_and, or_true, true_or, or_false, false_or, not_true_eq_false, not_false_eq_true, ne_eq, ite_true, ite_false]) | (simp only [bI, pChoose, sChoose, eq_true c_1, eq_false (Int32.not_le.mpr c_1), eq_true c_2, if_true, if_false, and_true, true_and, and_false, false_and, or_true, true_or, or_false, false_or, not_true_eq_false, not_false_eq_true, ne_eq, ite_true, ite_false]; rfl)) (by rw [show (sChoose c p0 x) = (sChM c (sFull c) x) from by first | rfl | (simp only [bI, pChoose, sChoose, eq_true c_1, eq_false (Int32.not_le.mpr c_1), eq_true c_2, if_true, if_false, and_true, true_and, and_false, false_and, or_true, true_or, or_false, false_or, not_true_eq_false, not_false_eq_true, ne_eq, ite_true, ite_false]) | (simp only [bI, pChoose, sChoose, eq_true c_1, eq_false (Int32.not_le.mpr c_1), eq_true c_2, if_true, if_false, and_true, true_and, and_false, false_and, or_true, true_or, or_false, false_or, not_true_eq_false, not_false_eq_true, ne_eq, ite_true, ite_false]; rfl)]; exact hP) (by rw [show (sChoose c p0 x) = (sChM c (sFull c) x) from by first | rfl | (simp only [bI, pChoose, sChoose, eq_true c_1, eq_false (Int32.not_le.mpr c_1), eq_true c_2, if_true, if_false, and_true, true_and, and_false, false_and, or_true, true_or, or_false, false_or, not_true_eq_false, not_false_eq_true, ne_eq, ite_true, ite_false]) | (simp only [bI, pChoose, sChoose, eq_true c_1, eq_false (Int32.not_le.mpr c_1), eq_true c_2, if_true, if_false, and_true, true_and, and_false, false_and, or_true, true_or, or_false, false_or, not_true_eq_false, not_false_eq_true, ne_eq, ite_true, ite_false]; rfl)]; exact hD) hS dX3_choose_34
  · skip
    refine lv_iconst (v := 0) hx hb dX3_choose_17 (by decide) ?_
    exact m_ret () hx hb hr hlocks rfl (by first | rfl | (simp only [bI, pChoose, sChoose, eq_false c_1, eq_true (Int32.not_lt.mp c_1), if_true, if_false, and_true, true_and, and_false, false_and, or_true, true_or, or_false, false_or, not_true_eq_false, not_false_eq_true, ne_eq, ite_true, ite_false]) | (simp only [bI, pChoose, sChoose, eq_false c_1, eq_true (Int32.not_lt.mp c_1), if_true, if_false, and_true, true_and, and_false, false_and, or_true, true_or, or_false, false_or, not_true_eq_false, not_false_eq_true, ne_eq, ite_true, ite_false]; rfl)) (by rw [show (sChoose c p0 x) = x from by first | rfl | (simp only [bI, pChoose, sChoose, eq_false c_1, eq_true (Int32.not_lt.mp c_1), if_true, if_false, and_true, true_and, and_false, false_and, or_true, true_or, or_false, false_or, not_true_eq_false, not_false_eq_true, ne_eq, ite_true, ite_false]) | (simp only [bI, pChoose, sChoose, eq_false c_1, eq_true (Int32.not_lt.mp c_1), if_true, if_false, and_true, true_and, and_false, false_and, or_true, true_or, or_false, false_or, not_true_eq_false, not_false_eq_true, ne_eq, ite_true, ite_false]; rfl)]; exact hP) (by rw [show (sChoose c p0 x) = x from by first | rfl | (simp only [bI, pChoose, sChoose, eq_false c_1, eq_true (Int32.not_lt.mp c_1), if_true, if_false, and_true, true_and, and_false, false_and, or_true, true_or, or_false, false_or, not_true_eq_false, not_false_eq_true, ne_eq, ite_true, ite_false]) | (simp only [bI, pChoose, sChoose, eq_false c_1, eq_true (Int32.not_lt.mp c_1), if_true, if_false, and_true, true_and, and_false, false_and, or_true, true_or, or_false, false_or, not_true_eq_false, not_false_eq_true, ne_eq, ite_true, ite_false]; rfl)]; exact hD) hS dX3_choose_18
theorem cd_X3_choose : yX3_choose.cls = RX3 ∧ yX3_choose.cls ≠ "java/lang/invoke/MethodHandle" ∧ yX3_choose.cls ≠ "java/lang/invoke/VarHandle" ∧ (parseMethodDescriptor yX3_choose.desc).map (fun d => d.parameters.length) = some 2 := by decide +kernel
-- X3_walk
theorem lk_X3_walk_1 : Cond.fieldLink RX3 9 "EvenLoads$Step" "job" "I" ∈ wsX3_walk := List.mem_of_getElem? (i := 1) (by decide +kernel)
theorem lk_X3_walk_2 : Cond.fieldLink RX3 15 "EvenLoads$Step" "goal" "I" ∈ wsX3_walk := List.mem_of_getElem? (i := 2) (by decide +kernel)
theorem lk_X3_walk_3 : Cond.fieldLink RX3 18 "EvenLoads$Step" "other" "I" ∈ wsX3_walk := List.mem_of_getElem? (i := 3) (by decide +kernel)
theorem lk_X3_walk_23 : Cond.static yX4_at ∈ wsX3_walk := List.mem_of_getElem? (i := 23) (by decide +kernel)
theorem lk_X3_walk_24 : Cond.initialized RX4 ∈ wsX3_walk := List.mem_of_getElem? (i := 24) (by decide +kernel)
theorem in_X3_walk_X0 : ∀ w ∈ wsX00, w ∈ wsX3_walk := by decide +kernel
theorem in_X3_walk_X3 : ∀ w ∈ wsX30, w ∈ wsX3_walk := by decide +kernel
set_option maxHeartbeats 4000000 in
set_option maxRecDepth 100000 in
theorem c_X3_walk (l : Launch) (G : va_G) (cI cQ : ClassId) (a : Nat) (x : SS) (h : Nat → Nat) (c : CS) (hv : knv c ≤ 6) (hj : knj c ≤ 24) (p0 : Int32) (sz0 : Nat) : Met l yX3_walk wsX3_walk ({ frames := 3, cells := 0, slots := 0, locals := 112 } : Room) (mPc G cI cQ [.ref a, .ref (h 0), .int p0] ((stT cI a x) ++ (clT cI h c)) sz0) (va_Qi (fun (r : Int32) (_ : Unit) => r = (fWalk c x p0).1) (mB G (va_A ((stT cI a x) ++ (clT cI h c)) sz0) (fun _ => (stT cI a (fWalk c x p0).2.2) ++ (clT cI h (fWalk c x p0).2.1))) (va_A ((stT cI a x) ++ (clT cI h c)) sz0)) 0 0 (va_A ((stT cI a x) ++ (clT cI h c)) sz0) := by
  refine mm_of (cc := cX3_walk) (maxL := 6) (ret := (some .int)) (own := RX3) (by decide) rfl rfl (Nat.le_of_ble_eq_true rfl) rfl ?_
  intro p e s m below meth cd ls A hx hb hr hts hown hlocks hml hA hK hP hD hS hl
  refine lv_iload_n hx hb dX3_walk_0 rfl (lv_at hl 2 rfl) ?_
  refine lv_iconst (v := 1) hx hb dX3_walk_1 (by decide) ?_
  refine lv_icmp_lt (tgt := 11) hx hb dX3_walk_2 (by decide) (fun c_1 => ?_) (fun c_1 => ?_)
  · skip
    refine lv_iconst (v := (-1)) hx hb dX3_walk_11 (by decide) ?_
    exact m_ret () hx hb hr hlocks rfl (by simp only [fWalk, eq_true c_1, eq_false (Int32.not_le.mpr c_1), if_true, if_false, and_true, true_and, and_false, false_and, or_true, true_or, or_false, false_or, not_true_eq_false, not_false_eq_true, ne_eq, ite_true, ite_false]) (by rw [show (fWalk c x p0).2.2 = x from by simp only [fWalk, eq_true c_1, eq_false (Int32.not_le.mpr c_1), if_true, if_false, and_true, true_and, and_false, false_and, or_true, true_or, or_false, false_or, not_true_eq_false, not_false_eq_true, ne_eq, ite_true, ite_false]]; rw [show (fWalk c x p0).2.1 = c from by simp only [fWalk, eq_true c_1, eq_false (Int32.not_le.mpr c_1), if_true, if_false, and_true, true_and, and_false, false_and, or_true, true_or, or_false, false_or, not_true_eq_false, not_false_eq_true, ne_eq, ite_true, ite_false]]; exact hP) (by rw [show (fWalk c x p0).2.2 = x from by simp only [fWalk, eq_true c_1, eq_false (Int32.not_le.mpr c_1), if_true, if_false, and_true, true_and, and_false, false_and, or_true, true_or, or_false, false_or, not_true_eq_false, not_false_eq_true, ne_eq, ite_true, ite_false]]; rw [show (fWalk c x p0).2.1 = c from by simp only [fWalk, eq_true c_1, eq_false (Int32.not_le.mpr c_1), if_true, if_false, and_true, true_and, and_false, false_and, or_true, true_or, or_false, false_or, not_true_eq_false, not_false_eq_true, ne_eq, ite_true, ite_false]]; exact hD) hS dX3_walk_12
  · skip
    refine lv_iload_n hx hb dX3_walk_5 rfl (lv_at hl 2 rfl) ?_
    refine lv_bipush (v := 30) hx hb dX3_walk_6 (by decide) ?_
    refine lv_icmp_le (tgt := 13) hx hb dX3_walk_8 (by decide) (fun c_2 => ?_) (fun c_2 => ?_)
    · skip
      obtain ⟨j9, hj9, ej9, cj9⟩ := steps_nI c_1 c_2
      have hN9 : p0.toNatClampNeg ≤ 30 := by rw [cj9]; exact hj9
      have eN9 : p0 = nI p0.toNatClampNeg := by rw [cj9]; exact ej9
      refine lv_aload_n hx hb dX3_walk_13 rfl (lv_at hl 1 rfl) ?_
      refine pcV (rest := []) ⟨hx, hb, hml, hown, hts⟩ (c_X0_target l G cI cQ h c hv hj) (cwV 0 hts gX3_walk_X0_target rfl rfl rfl cd_X0_target ⟨Nat.le_of_ble_eq_true rfl, Nat.le_of_ble_eq_true rfl⟩) hK hP [1, 2, 3, 4, 5, 6, 7] rfl 1 rfl rfl rfl rfl hl.1 rfl (Nat.le_of_ble_eq_true rfl) dX3_walk_14 ⟨Nat.zero_le _, Nat.zero_le _⟩ ?_
      refine lv_istore_n (lv' := [(3, .int (sTarget c)), (0, .ref a), (1, .ref (h 0)), (2, .int p0)]) hx hb dX3_walk_17 rfl hl (by decide) rfl (fun ls hl => ?_)
      refine lv_iconst (v := 0) hx hb dX3_walk_18 (by decide) ?_
      refine lv_istore (lv' := [(4, .int 0), (3, .int (sTarget c)), (0, .ref a), (1, .ref (h 0)), (2, .int p0)]) hx hb dX3_walk_19 hl (by decide) rfl (fun ls hl => ?_)
      have L21 : ∀ (n21 i21 : Nat), 0 ≤ i21 → i21 ≤ p0.toNatClampNeg → p0.toNatClampNeg + 1 ≤ i21 + n21 → wkN c x p0 = ((wkF (sTarget c) (p0.toNatClampNeg - i21) (itF (sTarget c) (c, x) i21)).1 + i21, (wkF (sTarget c) (p0.toNatClampNeg - i21) (itF (sTarget c) (c, x) i21)).2) → ∀ (H : Heap) (locs : List Loc), va_P G vwCl ((stT cI a ((itF (sTarget c) (c, x) i21).2)) ++ (clT cI h ((itF (sTarget c) (c, x) i21).1))) H → va_D A ((stT cI a ((itF (sTarget c) (c, x) i21).2)) ++ (clT cI h ((itF (sTarget c) (c, x) i21).1))) → va_S A s.heap H locs → ∀ (ls : Array Slot), lv_has ls 6 [(4, .int (nI i21)), (3, .int (sTarget c)), (0, .ref a), (1, .ref (h 0)), (2, .int p0)] → W p l e ({ frames := 3, cells := 0, slots := 0, locals := 112 } : Room) s m ([.ref a, .ref (h 0), .int p0] : List Value).toArray below meth cd H locs 0 0 (MQ below (va_Qi (fun (r : Int32) (_ : Unit) => r = (fWalk c x p0).1) (mB G (A) (fun _ => (stT cI a (fWalk c x p0).2.2) ++ (clT cI h (fWalk c x p0).2.1))) (A)) ([.ref a, .ref (h 0), .int p0] : List Value).toArray s 0 0 A) (F0 m 21 ls []) := by
        intro n21
        induction n21 with
        | zero => intro i21 h0 h1 h2; exact absurd h2 (by omega)
        | succ n21 ih21 =>
          intro i21 hlo21 hle21 hin21 hinv H locs hP hD hS ls hl
          refine lv_iload hx hb dX3_walk_21 (lv_at hl 0 rfl) ?_
          refine lv_iload_n hx hb dX3_walk_23 rfl (lv_at hl 4 rfl) ?_
          refine lv_cvt (y := nI p0.toNatClampNeg) eN9 ?_
          refine lv_icmp_ge (tgt := 89) hx hb dX3_walk_24 (by decide) (fun c_3 => ?_) (fun c_3 => ?_)
          · skip
            have q_4 : i21 = p0.toNatClampNeg := by have h9 := (nI_leI (by omega) (by omega)).mp c_3; omega
            subst q_4
            refine lv_iload_n hx hb dX3_walk_89 rfl (lv_at hl 4 rfl) ?_
            exact m_ret () hx hb hr hlocks rfl (by (simp only [fWalk, eq_false c_1, eq_true (Int32.not_lt.mp c_1), eq_true c_2, eq_false (Int32.not_lt.mpr c_2), if_true, if_false, and_true, true_and, and_false, false_and, or_true, true_or, or_false, false_or, not_true_eq_false, not_false_eq_true, ne_eq, ite_true, ite_false]); rw [hinv, Nat.sub_self]; (try simp only [wkF, Nat.zero_add]); (try exact eN9)) (by rw [show (fWalk c x p0).2.2 = ((itF (sTarget c) (c, x) p0.toNatClampNeg).2) from by (simp only [fWalk, eq_false c_1, eq_true (Int32.not_lt.mp c_1), eq_true c_2, eq_false (Int32.not_lt.mpr c_2), if_true, if_false, and_true, true_and, and_false, false_and, or_true, true_or, or_false, false_or, not_true_eq_false, not_false_eq_true, ne_eq, ite_true, ite_false]); rw [hinv, Nat.sub_self]; (try simp only [wkF, Nat.zero_add]); (try exact eN9)]; rw [show (fWalk c x p0).2.1 = ((itF (sTarget c) (c, x) p0.toNatClampNeg).1) from by (simp only [fWalk, eq_false c_1, eq_true (Int32.not_lt.mp c_1), eq_true c_2, eq_false (Int32.not_lt.mpr c_2), if_true, if_false, and_true, true_and, and_false, false_and, or_true, true_or, or_false, false_or, not_true_eq_false, not_false_eq_true, ne_eq, ite_true, ite_false]); rw [hinv, Nat.sub_self]; (try simp only [wkF, Nat.zero_add]); (try exact eN9)]; exact hP) (by rw [show (fWalk c x p0).2.2 = ((itF (sTarget c) (c, x) p0.toNatClampNeg).2) from by (simp only [fWalk, eq_false c_1, eq_true (Int32.not_lt.mp c_1), eq_true c_2, eq_false (Int32.not_lt.mpr c_2), if_true, if_false, and_true, true_and, and_false, false_and, or_true, true_or, or_false, false_or, not_true_eq_false, not_false_eq_true, ne_eq, ite_true, ite_false]); rw [hinv, Nat.sub_self]; (try simp only [wkF, Nat.zero_add]); (try exact eN9)]; rw [show (fWalk c x p0).2.1 = ((itF (sTarget c) (c, x) p0.toNatClampNeg).1) from by (simp only [fWalk, eq_false c_1, eq_true (Int32.not_lt.mp c_1), eq_true c_2, eq_false (Int32.not_lt.mpr c_2), if_true, if_false, and_true, true_and, and_false, false_and, or_true, true_or, or_false, false_or, not_true_eq_false, not_false_eq_true, ne_eq, ite_true, ite_false]); rw [hinv, Nat.sub_self]; (try simp only [wkF, Nat.zero_add]); (try exact eN9)]; exact hD) hS dX3_walk_90
          · skip
            have hlt21 : i21 < p0.toNatClampNeg := Nat.lt_of_not_le (fun q => c_3 ((nI_leI (by omega) (by omega)).mpr q))
            refine lv_aload_n hx hb dX3_walk_27 rfl (lv_at hl 2 rfl) ?_
            refine lv_aload_n hx hb dX3_walk_28 rfl (lv_at hl 3 rfl) ?_
            refine lv_iload_n hx hb dX3_walk_29 rfl (lv_at hl 1 rfl) ?_
            refine mcV (rest := []) (wr := []) ⟨hx, hb, hml, hown, hts⟩ (c_X3_choose l G cI cQ a ((itF (sTarget c) (c, x) i21).2) h ((itF (sTarget c) (c, x) i21).1) (Nat.le_trans (Nat.le_of_eq (itF_nv (sTarget c) (c, x) i21)) hv) (Nat.le_trans (Nat.le_of_eq (itF_nj (sTarget c) (c, x) i21)) hj) (sTarget c) _) (cwV 2 hts gX3_walk_X3_choose rfl rfl rfl cd_X3_choose ⟨Nat.le_of_ble_eq_true rfl, Nat.le_of_ble_eq_true rfl⟩) hK hP hD hS hA [0, 1, 2, 3, 4, 5, 6, 7] [] rfl rfl (by decide) (by decide) (by decide) 0 rfl rfl rfl rfl hl.1 rfl (Nat.le_of_ble_eq_true rfl) dX3_walk_30 ⟨Nat.zero_le _, Nat.zero_le _⟩ (fun r _ H locs hr9 hP hD hS => ?_)
            subst hr9
            have hP : va_P G vwCl ((stT cI a (sChoose ((itF (sTarget c) (c, x) i21).1) (sTarget c) ((itF (sTarget c) (c, x) i21).2))) ++ (clT cI h ((itF (sTarget c) (c, x) i21).1))) H := hP
            have hD : va_D A ((stT cI a (sChoose ((itF (sTarget c) (c, x) i21).1) (sTarget c) ((itF (sTarget c) (c, x) i21).2))) ++ (clT cI h ((itF (sTarget c) (c, x) i21).1))) := hD
            refine lv_if_ne (tgt := 39) hx hb dX3_walk_33 (by decide) (fun c_5 => ?_) (fun c_5 => ?_)
            · skip
              have c_5 := bI_n0.mp c_5
              refine lv_aload_n hx hb dX3_walk_39 rfl (lv_at hl 3 rfl) ?_
              refine va_getN (D := G) (ci := 0) (v := .ref (h 3)) (C := RX0) (T := TX0) (N := 13) hx hb hts in_X3_walk_X0 hown hK.1 hP 1 rfl rfl 2 (by decide) (hK.2.f 4 rfl) (fun _ h9 => h9) rfl dX3_walk_40 ?_
              refine lv_aload_n hx hb dX3_walk_43 rfl (lv_at hl 2 rfl) ?_
              refine va_get (D := G) (ci := 3) (v := .int (kSjob (sChoose ((itF (sTarget c) (c, x) i21).1) (sTarget c) ((itF (sTarget c) (c, x) i21).2)))) (C := RX3) (T := TX3) (N := 5) hx hb hts in_X3_walk_X3 hown hK.1 hP 0 rfl rfl 0 (by decide) (hts _ lk_X3_walk_1) (fun _ h9 => h9) rfl dX3_walk_44 ?_
              refine pcSN (rest := []) ⟨hx, hb, hml, hown, hts⟩ (c_X4_at l G cI cQ (h 3) 24 (kpl ((itF (sTarget c) (c, x) i21).1)) (kSjob (sChoose ((itF (sTarget c) (c, x) i21).1) (sTarget c) ((itF (sTarget c) (c, x) i21).2))) (by decide)) ⟨va_cnB 2 hts gX3_walk_X4_at_n41 rfl rfl rfl (hK.2.m 7 rfl) (hts _ lk_X3_walk_24) cd_X4_at.2 ⟨Nat.le_of_ble_eq_true rfl, Nat.le_of_ble_eq_true rfl⟩, hts _ lk_X3_walk_23, trivial⟩ hK hP [4] rfl rfl hl.1 rfl (Nat.le_of_ble_eq_true rfl) dX3_walk_47 ⟨Nat.zero_le _, Nat.zero_le _⟩ ?_
              refine lv_istore (lv' := [(5, .int (aT 24 (kpl ((itF (sTarget c) (c, x) i21).1)) (kSjob (sChoose ((itF (sTarget c) (c, x) i21).1) (sTarget c) ((itF (sTarget c) (c, x) i21).2))))), (4, .int (nI i21)), (3, .int (sTarget c)), (0, .ref a), (1, .ref (h 0)), (2, .int p0)]) hx hb dX3_walk_50 hl (by decide) rfl (fun ls hl => ?_)
              refine lv_aload_n hx hb dX3_walk_52 rfl (lv_at hl 4 rfl) ?_
              refine lv_aload_n hx hb dX3_walk_53 rfl (lv_at hl 3 rfl) ?_
              refine va_get (D := G) (ci := 3) (v := .int (kSjob (sChoose ((itF (sTarget c) (c, x) i21).1) (sTarget c) ((itF (sTarget c) (c, x) i21).2)))) (C := RX3) (T := TX3) (N := 5) hx hb hts in_X3_walk_X3 hown hK.1 hP 0 rfl rfl 0 (by decide) (hts _ lk_X3_walk_1) (fun _ h9 => h9) rfl dX3_walk_54 ?_
              refine lv_aload_n hx hb dX3_walk_57 rfl (lv_at hl 3 rfl) ?_
              refine va_get (D := G) (ci := 3) (v := .int (kSgoal (sChoose ((itF (sTarget c) (c, x) i21).1) (sTarget c) ((itF (sTarget c) (c, x) i21).2)))) (C := RX3) (T := TX3) (N := 5) hx hb hts in_X3_walk_X3 hown hK.1 hP 0 rfl rfl 1 (by decide) (hts _ lk_X3_walk_2) (fun _ h9 => h9) rfl dX3_walk_58 ?_
              refine mcVv (rest := []) (wr := ((stT cI a (sChoose ((itF (sTarget c) (c, x) i21).1) (sTarget c) ((itF (sTarget c) (c, x) i21).2))))) ⟨hx, hb, hml, hown, hts⟩ (c_X0_takeTo l G cI cQ h ((itF (sTarget c) (c, x) i21).1) (Nat.le_trans (Nat.le_of_eq (itF_nv (sTarget c) (c, x) i21)) hv) (Nat.le_trans (Nat.le_of_eq (itF_nj (sTarget c) (c, x) i21)) hj) (kSjob (sChoose ((itF (sTarget c) (c, x) i21).1) (sTarget c) ((itF (sTarget c) (c, x) i21).2))) (kSgoal (sChoose ((itF (sTarget c) (c, x) i21).1) (sTarget c) ((itF (sTarget c) (c, x) i21).2))) _) (cwV 2 hts gX3_walk_X0_takeTo rfl rfl rfl cd_X0_takeTo ⟨Nat.le_of_ble_eq_true rfl, Nat.le_of_ble_eq_true rfl⟩) hK hP hD hS hA [1, 2, 3, 4, 5, 6, 7] [0] rfl rfl (by decide) (by decide) (by decide) 1 rfl rfl rfl rfl hl.1 rfl (Nat.le_of_ble_eq_true rfl) dX3_walk_61 ⟨Nat.zero_le _, Nat.zero_le _⟩ (fun _ H locs _ hP hD hS => ?_)
              have hP : va_P G vwCl ((stT cI a (sChoose ((itF (sTarget c) (c, x) i21).1) (sTarget c) ((itF (sTarget c) (c, x) i21).2))) ++ (clT cI h (sTake ((itF (sTarget c) (c, x) i21).1) (kSjob (sChoose ((itF (sTarget c) (c, x) i21).1) (sTarget c) ((itF (sTarget c) (c, x) i21).2))) (kSgoal (sChoose ((itF (sTarget c) (c, x) i21).1) (sTarget c) ((itF (sTarget c) (c, x) i21).2)))))) H := hP
              have hD : va_D A ((stT cI a (sChoose ((itF (sTarget c) (c, x) i21).1) (sTarget c) ((itF (sTarget c) (c, x) i21).2))) ++ (clT cI h (sTake ((itF (sTarget c) (c, x) i21).1) (kSjob (sChoose ((itF (sTarget c) (c, x) i21).1) (sTarget c) ((itF (sTarget c) (c, x) i21).2))) (kSgoal (sChoose ((itF (sTarget c) (c, x) i21).1) (sTarget c) ((itF (sTarget c) (c, x) i21).2)))))) := hD
              refine lv_aload_n hx hb dX3_walk_64 rfl (lv_at hl 3 rfl) ?_
              refine va_get (D := G) (ci := 3) (v := .int (kSother (sChoose ((itF (sTarget c) (c, x) i21).1) (sTarget c) ((itF (sTarget c) (c, x) i21).2)))) (C := RX3) (T := TX3) (N := 5) hx hb hts in_X3_walk_X3 hown hK.1 hP 0 rfl rfl 2 (by decide) (hts _ lk_X3_walk_3) (fun _ h9 => h9) rfl dX3_walk_65 ?_
              refine lv_bipush (v := (-9)) hx hb dX3_walk_68 (by decide) ?_
              refine lv_icmp_eq (tgt := 83) hx hb dX3_walk_70 (by decide) (fun c_6 => ?_) (fun c_6 => ?_)
              · skip
                refine lv_iinc (v := (nI (i21 + 1))) (lv' := [(4, .int (nI (i21 + 1))), (5, .int (aT 24 (kpl ((itF (sTarget c) (c, x) i21).1)) (kSjob (sChoose ((itF (sTarget c) (c, x) i21).1) (sTarget c) ((itF (sTarget c) (c, x) i21).2))))), (3, .int (sTarget c)), (0, .ref a), (1, .ref (h 0)), (2, .int p0)]) hx hb dX3_walk_83 hl (k := 1) rfl (nI_1 i21) (by decide) rfl (fun ls hl => ?_)
                refine lv_goto (tgt := 21) hx hb dX3_walk_86 (by decide) ?_
                have e_7 : ((itF (sTarget c) (c, x) (i21 + 1)).2) = (sChoose ((itF (sTarget c) (c, x) i21).1) (sTarget c) ((itF (sTarget c) (c, x) i21).2)) := by show (stp _ _).2 = _; (first | rfl | (simp only [stp, sApply, eq_true c_6, eq_true (Eq.symm c_6), if_true, if_false, and_true, true_and, and_false, false_and, or_true, true_or, or_false, false_or, not_true_eq_false, not_false_eq_true, ne_eq, ite_true, ite_false]))
                have e_8 : ((itF (sTarget c) (c, x) (i21 + 1)).1) = (sTake ((itF (sTarget c) (c, x) i21).1) (kSjob (sChoose ((itF (sTarget c) (c, x) i21).1) (sTarget c) ((itF (sTarget c) (c, x) i21).2))) (kSgoal (sChoose ((itF (sTarget c) (c, x) i21).1) (sTarget c) ((itF (sTarget c) (c, x) i21).2)))) := by show (stp _ _).1 = _; (first | rfl | (simp only [stp, sApply, eq_true c_6, eq_true (Eq.symm c_6), if_true, if_false, and_true, true_and, and_false, false_and, or_true, true_or, or_false, false_or, not_true_eq_false, not_false_eq_true, ne_eq, ite_true, ite_false]))
                have y_9 : wkN c x p0 = ((wkF (sTarget c) (p0.toNatClampNeg - (i21 + 1)) (itF (sTarget c) (c, x) (i21 + 1))).1 + (i21 + 1), (wkF (sTarget c) (p0.toNatClampNeg - (i21 + 1)) (itF (sTarget c) (c, x) (i21 + 1))).2) := by
                  have h8 : p0.toNatClampNeg - i21 = (p0.toNatClampNeg - (i21 + 1)) + 1 := by omega
                  rw [hinv, h8, wkF, if_pos c_5]
                  show (_ + 1 + i21, _) = (_ + (i21 + 1), _)
                  rw [Nat.add_assoc, Nat.add_comm 1 i21]
                  rfl
                exact ih21 (i21 + 1) (by omega) (by omega) (by omega) y_9 _ _ (by rw [e_7]; rw [e_8]; exact hP) (by rw [e_7]; rw [e_8]; exact hD) hS ls (by exact lv_sub hl [0, 2, 3, 4, 5] rfl)
              · skip
                refine lv_aload_n hx hb dX3_walk_73 rfl (lv_at hl 4 rfl) ?_
                refine lv_aload_n hx hb dX3_walk_74 rfl (lv_at hl 3 rfl) ?_
                refine va_get (D := G) (ci := 3) (v := .int (kSother (sChoose ((itF (sTarget c) (c, x) i21).1) (sTarget c) ((itF (sTarget c) (c, x) i21).2)))) (C := RX3) (T := TX3) (N := 5) hx hb hts in_X3_walk_X3 hown hK.1 hP 0 rfl rfl 2 (by decide) (hts _ lk_X3_walk_3) (fun _ h9 => h9) rfl dX3_walk_75 ?_
                refine lv_iload hx hb dX3_walk_78 (lv_at hl 0 rfl) ?_
                refine mcVv (rest := []) (wr := ((stT cI a (sChoose ((itF (sTarget c) (c, x) i21).1) (sTarget c) ((itF (sTarget c) (c, x) i21).2))))) ⟨hx, hb, hml, hown, hts⟩ (c_X0_takeTo l G cI cQ h (sTake ((itF (sTarget c) (c, x) i21).1) (kSjob (sChoose ((itF (sTarget c) (c, x) i21).1) (sTarget c) ((itF (sTarget c) (c, x) i21).2))) (kSgoal (sChoose ((itF (sTarget c) (c, x) i21).1) (sTarget c) ((itF (sTarget c) (c, x) i21).2)))) (Nat.le_trans (Nat.le_of_eq (itF_nv (sTarget c) (c, x) i21)) hv) (Nat.le_trans (Nat.le_of_eq (itF_nj (sTarget c) (c, x) i21)) hj) (kSother (sChoose ((itF (sTarget c) (c, x) i21).1) (sTarget c) ((itF (sTarget c) (c, x) i21).2))) (aT 24 (kpl ((itF (sTarget c) (c, x) i21).1)) (kSjob (sChoose ((itF (sTarget c) (c, x) i21).1) (sTarget c) ((itF (sTarget c) (c, x) i21).2)))) _) (cwV 2 hts gX3_walk_X0_takeTo rfl rfl rfl cd_X0_takeTo ⟨Nat.le_of_ble_eq_true rfl, Nat.le_of_ble_eq_true rfl⟩) hK hP hD hS hA [1, 2, 3, 4, 5, 6, 7] [0] rfl rfl (by decide) (by decide) (by decide) 1 rfl rfl rfl rfl hl.1 rfl (Nat.le_of_ble_eq_true rfl) dX3_walk_80 ⟨Nat.zero_le _, Nat.zero_le _⟩ (fun _ H locs _ hP hD hS => ?_)
                have hP : va_P G vwCl ((stT cI a (sChoose ((itF (sTarget c) (c, x) i21).1) (sTarget c) ((itF (sTarget c) (c, x) i21).2))) ++ (clT cI h (sTake (sTake ((itF (sTarget c) (c, x) i21).1) (kSjob (sChoose ((itF (sTarget c) (c, x) i21).1) (sTarget c) ((itF (sTarget c) (c, x) i21).2))) (kSgoal (sChoose ((itF (sTarget c) (c, x) i21).1) (sTarget c) ((itF (sTarget c) (c, x) i21).2)))) (kSother (sChoose ((itF (sTarget c) (c, x) i21).1) (sTarget c) ((itF (sTarget c) (c, x) i21).2))) (aT 24 (kpl ((itF (sTarget c) (c, x) i21).1)) (kSjob (sChoose ((itF (sTarget c) (c, x) i21).1) (sTarget c) ((itF (sTarget c) (c, x) i21).2))))))) H := hP
                have hD : va_D A ((stT cI a (sChoose ((itF (sTarget c) (c, x) i21).1) (sTarget c) ((itF (sTarget c) (c, x) i21).2))) ++ (clT cI h (sTake (sTake ((itF (sTarget c) (c, x) i21).1) (kSjob (sChoose ((itF (sTarget c) (c, x) i21).1) (sTarget c) ((itF (sTarget c) (c, x) i21).2))) (kSgoal (sChoose ((itF (sTarget c) (c, x) i21).1) (sTarget c) ((itF (sTarget c) (c, x) i21).2)))) (kSother (sChoose ((itF (sTarget c) (c, x) i21).1) (sTarget c) ((itF (sTarget c) (c, x) i21).2))) (aT 24 (kpl ((itF (sTarget c) (c, x) i21).1)) (kSjob (sChoose ((itF (sTarget c) (c, x) i21).1) (sTarget c) ((itF (sTarget c) (c, x) i21).2))))))) := hD
                refine lv_iinc (v := (nI (i21 + 1))) (lv' := [(4, .int (nI (i21 + 1))), (5, .int (aT 24 (kpl ((itF (sTarget c) (c, x) i21).1)) (kSjob (sChoose ((itF (sTarget c) (c, x) i21).1) (sTarget c) ((itF (sTarget c) (c, x) i21).2))))), (3, .int (sTarget c)), (0, .ref a), (1, .ref (h 0)), (2, .int p0)]) hx hb dX3_walk_83 hl (k := 1) rfl (nI_1 i21) (by decide) rfl (fun ls hl => ?_)
                refine lv_goto (tgt := 21) hx hb dX3_walk_86 (by decide) ?_
                have e_10 : ((itF (sTarget c) (c, x) (i21 + 1)).2) = (sChoose ((itF (sTarget c) (c, x) i21).1) (sTarget c) ((itF (sTarget c) (c, x) i21).2)) := by show (stp _ _).2 = _; (first | rfl | (simp only [stp, sApply, eq_false c_6, eq_false (Ne.symm c_6), if_true, if_false, and_true, true_and, and_false, false_and, or_true, true_or, or_false, false_or, not_true_eq_false, not_false_eq_true, ne_eq, ite_true, ite_false]))
                have e_11 : ((itF (sTarget c) (c, x) (i21 + 1)).1) = (sTake (sTake ((itF (sTarget c) (c, x) i21).1) (kSjob (sChoose ((itF (sTarget c) (c, x) i21).1) (sTarget c) ((itF (sTarget c) (c, x) i21).2))) (kSgoal (sChoose ((itF (sTarget c) (c, x) i21).1) (sTarget c) ((itF (sTarget c) (c, x) i21).2)))) (kSother (sChoose ((itF (sTarget c) (c, x) i21).1) (sTarget c) ((itF (sTarget c) (c, x) i21).2))) (aT 24 (kpl ((itF (sTarget c) (c, x) i21).1)) (kSjob (sChoose ((itF (sTarget c) (c, x) i21).1) (sTarget c) ((itF (sTarget c) (c, x) i21).2))))) := by show (stp _ _).1 = _; (first | rfl | (simp only [stp, sApply, eq_false c_6, eq_false (Ne.symm c_6), if_true, if_false, and_true, true_and, and_false, false_and, or_true, true_or, or_false, false_or, not_true_eq_false, not_false_eq_true, ne_eq, ite_true, ite_false]))
                have y_12 : wkN c x p0 = ((wkF (sTarget c) (p0.toNatClampNeg - (i21 + 1)) (itF (sTarget c) (c, x) (i21 + 1))).1 + (i21 + 1), (wkF (sTarget c) (p0.toNatClampNeg - (i21 + 1)) (itF (sTarget c) (c, x) (i21 + 1))).2) := by
                  have h8 : p0.toNatClampNeg - i21 = (p0.toNatClampNeg - (i21 + 1)) + 1 := by omega
                  rw [hinv, h8, wkF, if_pos c_5]
                  show (_ + 1 + i21, _) = (_ + (i21 + 1), _)
                  rw [Nat.add_assoc, Nat.add_comm 1 i21]
                  rfl
                exact ih21 (i21 + 1) (by omega) (by omega) (by omega) y_12 _ _ (by rw [e_10]; rw [e_11]; exact hP) (by rw [e_10]; rw [e_11]; exact hD) hS ls (by exact lv_sub hl [0, 2, 3, 4, 5] rfl)
            · skip
              have c_5 := bI_0.mp c_5
              refine lv_iload hx hb dX3_walk_36 (lv_at hl 0 rfl) ?_
              exact m_ret () hx hb hr hlocks rfl (by (simp only [fWalk, eq_false c_1, eq_true (Int32.not_lt.mp c_1), eq_true c_2, eq_false (Int32.not_lt.mpr c_2), if_true, if_false, and_true, true_and, and_false, false_and, or_true, true_or, or_false, false_or, not_true_eq_false, not_false_eq_true, ne_eq, ite_true, ite_false]); rw [hinv, show p0.toNatClampNeg - i21 = (p0.toNatClampNeg - (i21 + 1)) + 1 from by omega, wkF, if_neg c_5]; (try simp only [Nat.zero_add])) (by rw [show (fWalk c x p0).2.2 = (sChoose ((itF (sTarget c) (c, x) i21).1) (sTarget c) ((itF (sTarget c) (c, x) i21).2)) from by (simp only [fWalk, eq_false c_1, eq_true (Int32.not_lt.mp c_1), eq_true c_2, eq_false (Int32.not_lt.mpr c_2), if_true, if_false, and_true, true_and, and_false, false_and, or_true, true_or, or_false, false_or, not_true_eq_false, not_false_eq_true, ne_eq, ite_true, ite_false]); rw [hinv, show p0.toNatClampNeg - i21 = (p0.toNatClampNeg - (i21 + 1)) + 1 from by omega, wkF, if_neg c_5]; (try simp only [Nat.zero_add])]; rw [show (fWalk c x p0).2.1 = ((itF (sTarget c) (c, x) i21).1) from by (simp only [fWalk, eq_false c_1, eq_true (Int32.not_lt.mp c_1), eq_true c_2, eq_false (Int32.not_lt.mpr c_2), if_true, if_false, and_true, true_and, and_false, false_and, or_true, true_or, or_false, false_or, not_true_eq_false, not_false_eq_true, ne_eq, ite_true, ite_false]); rw [hinv, show p0.toNatClampNeg - i21 = (p0.toNatClampNeg - (i21 + 1)) + 1 from by omega, wkF, if_neg c_5]; (try simp only [Nat.zero_add])]; exact hP) (by rw [show (fWalk c x p0).2.2 = (sChoose ((itF (sTarget c) (c, x) i21).1) (sTarget c) ((itF (sTarget c) (c, x) i21).2)) from by (simp only [fWalk, eq_false c_1, eq_true (Int32.not_lt.mp c_1), eq_true c_2, eq_false (Int32.not_lt.mpr c_2), if_true, if_false, and_true, true_and, and_false, false_and, or_true, true_or, or_false, false_or, not_true_eq_false, not_false_eq_true, ne_eq, ite_true, ite_false]); rw [hinv, show p0.toNatClampNeg - i21 = (p0.toNatClampNeg - (i21 + 1)) + 1 from by omega, wkF, if_neg c_5]; (try simp only [Nat.zero_add])]; rw [show (fWalk c x p0).2.1 = ((itF (sTarget c) (c, x) i21).1) from by (simp only [fWalk, eq_false c_1, eq_true (Int32.not_lt.mp c_1), eq_true c_2, eq_false (Int32.not_lt.mpr c_2), if_true, if_false, and_true, true_and, and_false, false_and, or_true, true_or, or_false, false_or, not_true_eq_false, not_false_eq_true, ne_eq, ite_true, ite_false]); rw [hinv, show p0.toNatClampNeg - i21 = (p0.toNatClampNeg - (i21 + 1)) + 1 from by omega, wkF, if_neg c_5]; (try simp only [Nat.zero_add])]; exact hD) hS dX3_walk_38
      have e_13 : (nI 0) = 0 := by first | rfl | decide
      have e_14 : ((itF (sTarget c) (c, x) 0).2) = x := by rfl
      have e_15 : ((itF (sTarget c) (c, x) 0).1) = c := by rfl
      exact L21 (p0.toNatClampNeg + 1) 0 (by omega) (by omega) (by omega) (by rw [Nat.sub_zero]; rfl) _ _ (by rw [e_14]; rw [e_15]; exact hP) (by rw [e_14]; rw [e_15]; exact hD) hS ls (by rw [e_13]; exact lv_sub hl [0, 1, 2, 3, 4] rfl)
    · skip
      refine lv_iconst (v := (-1)) hx hb dX3_walk_11 (by decide) ?_
      exact m_ret () hx hb hr hlocks rfl (by simp only [fWalk, eq_false c_1, eq_true (Int32.not_lt.mp c_1), eq_false c_2, eq_true (Int32.not_le.mp c_2), if_true, if_false, and_true, true_and, and_false, false_and, or_true, true_or, or_false, false_or, not_true_eq_false, not_false_eq_true, ne_eq, ite_true, ite_false]) (by rw [show (fWalk c x p0).2.2 = x from by simp only [fWalk, eq_false c_1, eq_true (Int32.not_lt.mp c_1), eq_false c_2, eq_true (Int32.not_le.mp c_2), if_true, if_false, and_true, true_and, and_false, false_and, or_true, true_or, or_false, false_or, not_true_eq_false, not_false_eq_true, ne_eq, ite_true, ite_false]]; rw [show (fWalk c x p0).2.1 = c from by simp only [fWalk, eq_false c_1, eq_true (Int32.not_lt.mp c_1), eq_false c_2, eq_true (Int32.not_le.mp c_2), if_true, if_false, and_true, true_and, and_false, false_and, or_true, true_or, or_false, false_or, not_true_eq_false, not_false_eq_true, ne_eq, ite_true, ite_false]]; exact hP) (by rw [show (fWalk c x p0).2.2 = x from by simp only [fWalk, eq_false c_1, eq_true (Int32.not_lt.mp c_1), eq_false c_2, eq_true (Int32.not_le.mp c_2), if_true, if_false, and_true, true_and, and_false, false_and, or_true, true_or, or_false, false_or, not_true_eq_false, not_false_eq_true, ne_eq, ite_true, ite_false]]; rw [show (fWalk c x p0).2.1 = c from by simp only [fWalk, eq_false c_1, eq_true (Int32.not_lt.mp c_1), eq_false c_2, eq_true (Int32.not_le.mp c_2), if_true, if_false, and_true, true_and, and_false, false_and, or_true, true_or, or_false, false_or, not_true_eq_false, not_false_eq_true, ne_eq, ite_true, ite_false]]; exact hD) hS dX3_walk_12
theorem cd_X3_walk : yX3_walk.cls = RX3 ∧ yX3_walk.cls ≠ "java/lang/invoke/MethodHandle" ∧ yX3_walk.cls ≠ "java/lang/invoke/VarHandle" ∧ (parseMethodDescriptor yX3_walk.desc).map (fun d => d.parameters.length) = some 2 := by decide +kernel
