-- X5_keeps
theorem lk_X5_keeps_1 : Cond.fieldLink RX5 28 "EvenLoadsModel" "kept" "I" ∈ wsX5_keeps := List.mem_of_getElem? (i := 1) (by decide +kernel)
theorem lk_X5_keeps_2 : Cond.fieldLink RX5 13 "EvenLoadsModel" "past" "[I" ∈ wsX5_keeps := List.mem_of_getElem? (i := 2) (by decide +kernel)
theorem lk_X5_keeps_3 : Cond.fieldLink RX5 16 "EvenLoadsModel" "before" "[I" ∈ wsX5_keeps := List.mem_of_getElem? (i := 3) (by decide +kernel)
theorem in_X5_keeps_X5 : ∀ w ∈ wsX50, w ∈ wsX5_keeps := by decide +kernel
set_option maxHeartbeats 4000000 in
set_option maxRecDepth 100000 in
theorem c_X5_keeps (l : Launch) (G : va_G) (cI cQ : ClassId) (q : Nat → Nat) (z : MS) (hk : kMkept z ≤ 5) (sz0 : Nat) : Met l yX5_keeps wsX5_keeps ({ frames := 0, cells := 0, slots := 0, locals := 0 } : Room) (mPc G cI cQ [.ref (q 0)] ((mdT cI q z)) sz0) (va_Qv (fun (_ : Unit) => True) (mB G (va_A ((mdT cI q z)) sz0) (fun _ => (mdT cI q (uMkept (uMpast z (mPast (kMpast z) (kMbef z) (kMkept z))) (mKept (kMkept z)))))) (va_A ((mdT cI q z)) sz0)) 0 0 (va_A ((mdT cI q z)) sz0) := by
  refine mm_ofv (cc := cX5_keeps) (maxL := 2) (ret := none) (own := RX5) (by decide) rfl rfl (Nat.le_of_ble_eq_true rfl) rfl ?_
  intro p e s m below meth cd ls A hx hb hr hts hown hlocks hml hA hK hP hD hS hl
  refine lv_aload_n hx hb dX5_keeps_0 rfl (lv_at hl 0 rfl) ?_
  refine va_get (D := G) (ci := 5) (v := .int (nI (kMkept z))) (C := RX5) (T := TX5) (N := 15) hx hb hts in_X5_keeps_X5 hown hK.1 hP 0 rfl rfl 3 (by decide) (hts _ lk_X5_keeps_1) (fun _ h9 => h9) rfl dX5_keeps_1 ?_
  refine lv_iconst (v := 5) hx hb dX5_keeps_4 (by decide) ?_
  refine lv_icmp_ne (tgt := 48) hx hb dX5_keeps_5 (by decide) (fun c_1 => ?_) (fun c_1 => ?_)
  · skip
    have hk5 : kMkept z < 5 := by have h9 := hk; rcases Nat.lt_or_ge (kMkept z) 5 with q | q; exact q; exact absurd (by rw [show kMkept z = 5 from by omega]; rfl) c_1
    refine lv_iconst (v := 0) hx hb dX5_keeps_48 (by decide) ?_
    refine lv_istore_n (lv' := [(1, .int 0), (0, .ref (q 0))]) hx hb dX5_keeps_49 rfl hl (by decide) rfl (fun ls hl => ?_)
    have L50 : ∀ (n50 i50 : Nat), 0 ≤ i50 → i50 ≤ 102 → 102 + 1 ≤ i50 + n50 → ∀ (H : Heap) (locs : List Loc), va_P G vwCl ((mdT cI q (uMpast z (wrF (kMpast z) (kMbef z) (102 * (kMkept z)) i50)))) H → va_D A ((mdT cI q (uMpast z (wrF (kMpast z) (kMbef z) (102 * (kMkept z)) i50)))) → va_S A s.heap H locs → ∀ (ls : Array Slot), lv_has ls 2 [(1, .int (nI i50)), (0, .ref (q 0))] → W p l e ({ frames := 0, cells := 0, slots := 0, locals := 0 } : Room) s m ([.ref (q 0)] : List Value).toArray below meth cd H locs 0 0 (MQ below (va_Qv (fun (_ : Unit) => True) (mB G (A) (fun _ => (mdT cI q (uMkept (uMpast z (mPast (kMpast z) (kMbef z) (kMkept z))) (mKept (kMkept z)))))) (A)) ([.ref (q 0)] : List Value).toArray s 0 0 A) (F0 m 50 ls []) := by
      intro n50
      induction n50 with
      | zero => intro i50 h0 h1 h2; exact absurd h2 (by omega)
      | succ n50 ih50 =>
        intro i50 hlo50 hle50 hin50 H locs hP hD hS ls hl
        refine lv_iload_n hx hb dX5_keeps_50 rfl (lv_at hl 0 rfl) ?_
        refine lv_bipush (v := 102) hx hb dX5_keeps_51 (by decide) ?_
        refine lv_icmp_ge (tgt := 82) hx hb dX5_keeps_53 (by decide) (fun c_2 => ?_) (fun c_2 => ?_)
        · skip
          have q_3 : 102 = i50 := by have h9 := (nI_leI (a := 102) (b := i50) (by omega) (by omega)).mp c_2; omega
          subst q_3
          refine lv_aload_n hx hb dX5_keeps_82 rfl (lv_at hl 1 rfl) ?_
          refine lv_dup hx hb dX5_keeps_83 rfl ?_
          refine va_get (D := G) (ci := 5) (v := .int (nI (kMkept z))) (C := RX5) (T := TX5) (N := 15) hx hb hts in_X5_keeps_X5 hown hK.1 hP 0 rfl rfl 3 (by decide) (hts _ lk_X5_keeps_1) (fun _ h9 => h9) rfl dX5_keeps_84 ?_
          refine lv_iconst (v := 1) hx hb dX5_keeps_87 (by decide) ?_
          refine lv_iadd hx hb dX5_keeps_88 ?_
          refine lv_cvt (y := (nI ((kMkept z) + 1))) (nI_1 _) ?_
          refine va_put (D := G) (ci := 5) (v := .int (nI ((kMkept z) + 1))) (ty := .int) (C := RX5) (T := TX5) (N := 15) hx hb hts in_X5_keeps_X5 tyX5 tyX5_ok nmX5 hown hK.1 hP hD hS 0 rfl rfl 3 (by decide) (hts _ lk_X5_keeps_1) (fun _ h9 => h9) rfl (by decide +kernel) rfl rfl (Nat.le_of_ble_eq_true rfl) dX5_keeps_89 (fun H locs hP hD hS => ?_)
          have hP : va_P G vwCl ((mdT cI q (uMkept (uMpast z (wrF (kMpast z) (kMbef z) (102 * (kMkept z)) 102)) ((kMkept z) + 1)))) H := hP
          have hD : va_D A ((mdT cI q (uMkept (uMpast z (wrF (kMpast z) (kMbef z) (102 * (kMkept z)) 102)) ((kMkept z) + 1)))) := hD
          exact m_vret () hx hb hr hlocks trivial (by rw [show (uMkept (uMpast z (mPast (kMpast z) (kMbef z) (kMkept z))) (mKept (kMkept z))) = (uMkept (uMpast z (wrF (kMpast z) (kMbef z) (102 * (kMkept z)) 102)) ((kMkept z) + 1)) from by (simp only [mPast, mKept, if_neg (Nat.ne_of_lt hk5)]; try rfl)]; exact hP) (by rw [show (uMkept (uMpast z (mPast (kMpast z) (kMbef z) (kMkept z))) (mKept (kMkept z))) = (uMkept (uMpast z (wrF (kMpast z) (kMbef z) (102 * (kMkept z)) 102)) ((kMkept z) + 1)) from by (simp only [mPast, mKept, if_neg (Nat.ne_of_lt hk5)]; try rfl)]; exact hD) hS dX5_keeps_92
        · skip
          have hlt50 : i50 < 102 := Nat.lt_of_not_le (fun q => c_2 ((nI_leI (a := 102) (b := i50) (by omega) (by omega)).mpr q))
          refine lv_aload_n hx hb dX5_keeps_56 rfl (lv_at hl 1 rfl) ?_
          refine va_get (D := G) (ci := 5) (v := .ref (q 2)) (C := RX5) (T := TX5) (N := 15) hx hb hts in_X5_keeps_X5 hown hK.1 hP 0 rfl rfl 1 (by decide) (hts _ lk_X5_keeps_2) (fun _ h9 => h9) rfl dX5_keeps_57 ?_
          refine lv_bipush (v := 102) hx hb dX5_keeps_60 (by decide) ?_
          refine lv_aload_n hx hb dX5_keeps_62 rfl (lv_at hl 1 rfl) ?_
          refine va_get (D := G) (ci := 5) (v := .int (nI (kMkept z))) (C := RX5) (T := TX5) (N := 15) hx hb hts in_X5_keeps_X5 hown hK.1 hP 0 rfl rfl 3 (by decide) (hts _ lk_X5_keeps_1) (fun _ h9 => h9) rfl dX5_keeps_63 ?_
          refine lv_imul hx hb dX5_keeps_66 ?_
          refine lv_iload_n hx hb dX5_keeps_67 rfl (lv_at hl 0 rfl) ?_
          refine lv_iadd hx hb dX5_keeps_68 ?_
          refine lv_aload_n hx hb dX5_keeps_69 rfl (lv_at hl 1 rfl) ?_
          refine va_get (D := G) (ci := 5) (v := .ref (q 3)) (C := RX5) (T := TX5) (N := 15) hx hb hts in_X5_keeps_X5 hown hK.1 hP 0 rfl rfl 2 (by decide) (hts _ lk_X5_keeps_3) (fun _ h9 => h9) rfl dX5_keeps_70 ?_
          refine lv_iload_n hx hb dX5_keeps_73 rfl (lv_at hl 0 rfl) ?_
          refine iald_n hx hb hK hP 3 rfl i50 rfl (by omega) (by decide) dX5_keeps_74 ?_
          refine iast_n hx hb hK hP hD hS 2 rfl (102 * (kMkept z) + i50) (hxl (kMkept z) i50) (by omega) (by decide) dX5_keeps_75 (fun H locs hP hD hS => ?_)
          have hP : va_P G vwCl ((mdT cI q (uMpast z (upd (wrF (kMpast z) (kMbef z) (102 * (kMkept z)) i50) (102 * (kMkept z) + i50) ((kMbef z) i50))))) H := hP
          have hD : va_D A ((mdT cI q (uMpast z (upd (wrF (kMpast z) (kMbef z) (102 * (kMkept z)) i50) (102 * (kMkept z) + i50) ((kMbef z) i50))))) := hD
          refine lv_iinc (v := (nI (i50 + 1))) (lv' := [(1, .int (nI (i50 + 1))), (0, .ref (q 0))]) hx hb dX5_keeps_76 hl (k := 0) rfl (nI_1 i50) (by decide) rfl (fun ls hl => ?_)
          refine lv_goto (tgt := 50) hx hb dX5_keeps_79 (by decide) ?_
          have e_4 : (wrF (kMpast z) (kMbef z) (102 * (kMkept z)) (i50 + 1)) = (upd (wrF (kMpast z) (kMbef z) (102 * (kMkept z)) i50) (102 * (kMkept z) + i50) ((kMbef z) i50)) := wrF_s _ _ _ _
          exact ih50 (i50 + 1) (by omega) (by omega) (by omega) _ _ (by rw [e_4]; exact hP) (by rw [e_4]; exact hD) hS ls (by exact lv_sub hl [0, 1] rfl)
    have e_5 : (nI 0) = 0 := by first | rfl | decide
    have e_6 : (wrF (kMpast z) (kMbef z) (102 * (kMkept z)) 0) = (kMpast z) := wrF_0 _ _ _
    exact L50 (102 + 1) 0 (by omega) (by omega) (by omega) _ _ (by rw [e_6]; exact hP) (by rw [e_6]; exact hD) hS ls (by rw [e_5]; exact lv_sub hl [0, 1] rfl)
  · skip
    have ek5 : kMkept z = 5 := by have h9 := (nI_eq (a := kMkept z) (b := 5) (by omega) (by decide)).mp c_1; exact h9
    refine lv_iconst (v := 0) hx hb dX5_keeps_8 (by decide) ?_
    refine lv_istore_n (lv' := [(1, .int 0), (0, .ref (q 0))]) hx hb dX5_keeps_9 rfl hl (by decide) rfl (fun ls hl => ?_)
    have L10 : ∀ (n10 i10 : Nat), 0 ≤ i10 → i10 ≤ 408 → 408 + 1 ≤ i10 + n10 → ∀ (H : Heap) (locs : List Loc), va_P G vwCl ((mdT cI q (uMpast z (shF (kMpast z) i10)))) H → va_D A ((mdT cI q (uMpast z (shF (kMpast z) i10)))) → va_S A s.heap H locs → ∀ (ls : Array Slot), lv_has ls 2 [(1, .int (nI i10)), (0, .ref (q 0))] → W p l e ({ frames := 0, cells := 0, slots := 0, locals := 0 } : Room) s m ([.ref (q 0)] : List Value).toArray below meth cd H locs 0 0 (MQ below (va_Qv (fun (_ : Unit) => True) (mB G (A) (fun _ => (mdT cI q (uMkept (uMpast z (mPast (kMpast z) (kMbef z) (kMkept z))) (mKept (kMkept z)))))) (A)) ([.ref (q 0)] : List Value).toArray s 0 0 A) (F0 m 10 ls []) := by
      intro n10
      induction n10 with
      | zero => intro i10 h0 h1 h2; exact absurd h2 (by omega)
      | succ n10 ih10 =>
        intro i10 hlo10 hle10 hin10 H locs hP hD hS ls hl
        refine lv_iload_n hx hb dX5_keeps_10 rfl (lv_at hl 0 rfl) ?_
        refine lv_sipush (v := 408) hx hb dX5_keeps_11 (by decide) ?_
        refine lv_icmp_ge (tgt := 38) hx hb dX5_keeps_14 (by decide) (fun c_7 => ?_) (fun c_7 => ?_)
        · skip
          have q_8 : 408 = i10 := by have h9 := (nI_leI (a := 408) (b := i10) (by omega) (by omega)).mp c_7; omega
          subst q_8
          refine lv_aload_n hx hb dX5_keeps_38 rfl (lv_at hl 1 rfl) ?_
          refine lv_dup hx hb dX5_keeps_39 rfl ?_
          refine va_get (D := G) (ci := 5) (v := .int (nI (kMkept z))) (C := RX5) (T := TX5) (N := 15) hx hb hts in_X5_keeps_X5 hown hK.1 hP 0 rfl rfl 3 (by decide) (hts _ lk_X5_keeps_1) (fun _ h9 => h9) rfl dX5_keeps_40 ?_
          refine lv_iconst (v := 1) hx hb dX5_keeps_43 (by decide) ?_
          refine lv_isub hx hb dX5_keeps_44 ?_
          refine lv_cvt (y := (nI 4)) (by rw [ek5]; decide) ?_
          refine va_put (D := G) (ci := 5) (v := .int (nI 4)) (ty := .int) (C := RX5) (T := TX5) (N := 15) hx hb hts in_X5_keeps_X5 tyX5 tyX5_ok nmX5 hown hK.1 hP hD hS 0 rfl rfl 3 (by decide) (hts _ lk_X5_keeps_1) (fun _ h9 => h9) rfl (by decide +kernel) rfl rfl (Nat.le_of_ble_eq_true rfl) dX5_keeps_45 (fun H locs hP hD hS => ?_)
          have hP : va_P G vwCl ((mdT cI q (uMkept (uMpast z (shF (kMpast z) 408)) 4))) H := hP
          have hD : va_D A ((mdT cI q (uMkept (uMpast z (shF (kMpast z) 408)) 4))) := hD
          refine lv_iconst (v := 0) hx hb dX5_keeps_48 (by decide) ?_
          refine lv_istore_n (lv' := [(1, .int 0), (0, .ref (q 0))]) hx hb dX5_keeps_49 rfl hl (by decide) rfl (fun ls hl => ?_)
          have L50 : ∀ (n50 i50 : Nat), 0 ≤ i50 → i50 ≤ 102 → 102 + 1 ≤ i50 + n50 → ∀ (H : Heap) (locs : List Loc), va_P G vwCl ((mdT cI q (uMkept (uMpast z (wrF (shF (kMpast z) 408) (kMbef z) (102 * 4) i50)) 4))) H → va_D A ((mdT cI q (uMkept (uMpast z (wrF (shF (kMpast z) 408) (kMbef z) (102 * 4) i50)) 4))) → va_S A s.heap H locs → ∀ (ls : Array Slot), lv_has ls 2 [(1, .int (nI i50)), (0, .ref (q 0))] → W p l e ({ frames := 0, cells := 0, slots := 0, locals := 0 } : Room) s m ([.ref (q 0)] : List Value).toArray below meth cd H locs 0 0 (MQ below (va_Qv (fun (_ : Unit) => True) (mB G (A) (fun _ => (mdT cI q (uMkept (uMpast z (mPast (kMpast z) (kMbef z) (kMkept z))) (mKept (kMkept z)))))) (A)) ([.ref (q 0)] : List Value).toArray s 0 0 A) (F0 m 50 ls []) := by
            intro n50
            induction n50 with
            | zero => intro i50 h0 h1 h2; exact absurd h2 (by omega)
            | succ n50 ih50 =>
              intro i50 hlo50 hle50 hin50 H locs hP hD hS ls hl
              refine lv_iload_n hx hb dX5_keeps_50 rfl (lv_at hl 0 rfl) ?_
              refine lv_bipush (v := 102) hx hb dX5_keeps_51 (by decide) ?_
              refine lv_icmp_ge (tgt := 82) hx hb dX5_keeps_53 (by decide) (fun c_9 => ?_) (fun c_9 => ?_)
              · skip
                have q_10 : 102 = i50 := by have h9 := (nI_leI (a := 102) (b := i50) (by omega) (by omega)).mp c_9; omega
                subst q_10
                refine lv_aload_n hx hb dX5_keeps_82 rfl (lv_at hl 1 rfl) ?_
                refine lv_dup hx hb dX5_keeps_83 rfl ?_
                refine va_get (D := G) (ci := 5) (v := .int (nI 4)) (C := RX5) (T := TX5) (N := 15) hx hb hts in_X5_keeps_X5 hown hK.1 hP 0 rfl rfl 3 (by decide) (hts _ lk_X5_keeps_1) (fun _ h9 => h9) rfl dX5_keeps_84 ?_
                refine lv_iconst (v := 1) hx hb dX5_keeps_87 (by decide) ?_
                refine lv_iadd hx hb dX5_keeps_88 ?_
                refine lv_cvt (y := (nI 5)) (by decide) ?_
                refine va_put (D := G) (ci := 5) (v := .int (nI 5)) (ty := .int) (C := RX5) (T := TX5) (N := 15) hx hb hts in_X5_keeps_X5 tyX5 tyX5_ok nmX5 hown hK.1 hP hD hS 0 rfl rfl 3 (by decide) (hts _ lk_X5_keeps_1) (fun _ h9 => h9) rfl (by decide +kernel) rfl rfl (Nat.le_of_ble_eq_true rfl) dX5_keeps_89 (fun H locs hP hD hS => ?_)
                have hP : va_P G vwCl ((mdT cI q (uMkept (uMpast z (wrF (shF (kMpast z) 408) (kMbef z) (102 * 4) 102)) 5))) H := hP
                have hD : va_D A ((mdT cI q (uMkept (uMpast z (wrF (shF (kMpast z) 408) (kMbef z) (102 * 4) 102)) 5))) := hD
                exact m_vret () hx hb hr hlocks trivial (by rw [show (uMkept (uMpast z (mPast (kMpast z) (kMbef z) (kMkept z))) (mKept (kMkept z))) = (uMkept (uMpast z (wrF (shF (kMpast z) 408) (kMbef z) (102 * 4) 102)) 5) from by (simp only [mPast, mKept, if_pos ek5]; try rfl)]; exact hP) (by rw [show (uMkept (uMpast z (mPast (kMpast z) (kMbef z) (kMkept z))) (mKept (kMkept z))) = (uMkept (uMpast z (wrF (shF (kMpast z) 408) (kMbef z) (102 * 4) 102)) 5) from by (simp only [mPast, mKept, if_pos ek5]; try rfl)]; exact hD) hS dX5_keeps_92
              · skip
                have hlt50 : i50 < 102 := Nat.lt_of_not_le (fun q => c_9 ((nI_leI (a := 102) (b := i50) (by omega) (by omega)).mpr q))
                refine lv_aload_n hx hb dX5_keeps_56 rfl (lv_at hl 1 rfl) ?_
                refine va_get (D := G) (ci := 5) (v := .ref (q 2)) (C := RX5) (T := TX5) (N := 15) hx hb hts in_X5_keeps_X5 hown hK.1 hP 0 rfl rfl 1 (by decide) (hts _ lk_X5_keeps_2) (fun _ h9 => h9) rfl dX5_keeps_57 ?_
                refine lv_bipush (v := 102) hx hb dX5_keeps_60 (by decide) ?_
                refine lv_aload_n hx hb dX5_keeps_62 rfl (lv_at hl 1 rfl) ?_
                refine va_get (D := G) (ci := 5) (v := .int (nI 4)) (C := RX5) (T := TX5) (N := 15) hx hb hts in_X5_keeps_X5 hown hK.1 hP 0 rfl rfl 3 (by decide) (hts _ lk_X5_keeps_1) (fun _ h9 => h9) rfl dX5_keeps_63 ?_
                refine lv_imul hx hb dX5_keeps_66 ?_
                refine lv_iload_n hx hb dX5_keeps_67 rfl (lv_at hl 0 rfl) ?_
                refine lv_iadd hx hb dX5_keeps_68 ?_
                refine lv_aload_n hx hb dX5_keeps_69 rfl (lv_at hl 1 rfl) ?_
                refine va_get (D := G) (ci := 5) (v := .ref (q 3)) (C := RX5) (T := TX5) (N := 15) hx hb hts in_X5_keeps_X5 hown hK.1 hP 0 rfl rfl 2 (by decide) (hts _ lk_X5_keeps_3) (fun _ h9 => h9) rfl dX5_keeps_70 ?_
                refine lv_iload_n hx hb dX5_keeps_73 rfl (lv_at hl 0 rfl) ?_
                refine iald_n hx hb hK hP 3 rfl i50 rfl (by omega) (by decide) dX5_keeps_74 ?_
                refine iast_n hx hb hK hP hD hS 2 rfl (102 * 4 + i50) (hxl 4 i50) (by omega) (by decide) dX5_keeps_75 (fun H locs hP hD hS => ?_)
                have hP : va_P G vwCl ((mdT cI q (uMkept (uMpast z (upd (wrF (shF (kMpast z) 408) (kMbef z) (102 * 4) i50) (102 * 4 + i50) ((kMbef z) i50))) 4))) H := hP
                have hD : va_D A ((mdT cI q (uMkept (uMpast z (upd (wrF (shF (kMpast z) 408) (kMbef z) (102 * 4) i50) (102 * 4 + i50) ((kMbef z) i50))) 4))) := hD
                refine lv_iinc (v := (nI (i50 + 1))) (lv' := [(1, .int (nI (i50 + 1))), (0, .ref (q 0))]) hx hb dX5_keeps_76 hl (k := 0) rfl (nI_1 i50) (by decide) rfl (fun ls hl => ?_)
                refine lv_goto (tgt := 50) hx hb dX5_keeps_79 (by decide) ?_
                have e_11 : (wrF (shF (kMpast z) 408) (kMbef z) (102 * 4) (i50 + 1)) = (upd (wrF (shF (kMpast z) 408) (kMbef z) (102 * 4) i50) (102 * 4 + i50) ((kMbef z) i50)) := wrF_s _ _ _ _
                exact ih50 (i50 + 1) (by omega) (by omega) (by omega) _ _ (by rw [e_11]; exact hP) (by rw [e_11]; exact hD) hS ls (by exact lv_sub hl [0, 1] rfl)
          have e_12 : (nI 0) = 0 := by first | rfl | decide
          have e_13 : (wrF (shF (kMpast z) 408) (kMbef z) (102 * 4) 0) = (shF (kMpast z) 408) := wrF_0 _ _ _
          exact L50 (102 + 1) 0 (by omega) (by omega) (by omega) _ _ (by rw [e_13]; exact hP) (by rw [e_13]; exact hD) hS ls (by rw [e_12]; exact lv_sub hl [0, 1] rfl)
        · skip
          have hlt10 : i10 < 408 := Nat.lt_of_not_le (fun q => c_7 ((nI_leI (a := 408) (b := i10) (by omega) (by omega)).mpr q))
          refine lv_aload_n hx hb dX5_keeps_17 rfl (lv_at hl 1 rfl) ?_
          refine va_get (D := G) (ci := 5) (v := .ref (q 2)) (C := RX5) (T := TX5) (N := 15) hx hb hts in_X5_keeps_X5 hown hK.1 hP 0 rfl rfl 1 (by decide) (hts _ lk_X5_keeps_2) (fun _ h9 => h9) rfl dX5_keeps_18 ?_
          refine lv_iload_n hx hb dX5_keeps_21 rfl (lv_at hl 0 rfl) ?_
          refine lv_aload_n hx hb dX5_keeps_22 rfl (lv_at hl 1 rfl) ?_
          refine va_get (D := G) (ci := 5) (v := .ref (q 2)) (C := RX5) (T := TX5) (N := 15) hx hb hts in_X5_keeps_X5 hown hK.1 hP 0 rfl rfl 1 (by decide) (hts _ lk_X5_keeps_2) (fun _ h9 => h9) rfl dX5_keeps_23 ?_
          refine lv_iload_n hx hb dX5_keeps_26 rfl (lv_at hl 0 rfl) ?_
          refine lv_bipush (v := 102) hx hb dX5_keeps_27 (by decide) ?_
          refine lv_iadd hx hb dX5_keeps_29 ?_
          refine iald_n hx hb hK hP 2 rfl (i10 + 102) (nI_add i10 102) (by omega) (by decide) dX5_keeps_30 ?_
          refine iast_n hx hb hK hP hD hS 2 rfl i10 rfl (by omega) (by decide) dX5_keeps_31 (fun H locs hP hD hS => ?_)
          have hP : va_P G vwCl ((mdT cI q (uMpast z (upd (shF (kMpast z) i10) i10 ((shF (kMpast z) i10) (i10 + 102)))))) H := hP
          have hD : va_D A ((mdT cI q (uMpast z (upd (shF (kMpast z) i10) i10 ((shF (kMpast z) i10) (i10 + 102)))))) := hD
          refine lv_iinc (v := (nI (i10 + 1))) (lv' := [(1, .int (nI (i10 + 1))), (0, .ref (q 0))]) hx hb dX5_keeps_32 hl (k := 0) rfl (nI_1 i10) (by decide) rfl (fun ls hl => ?_)
          refine lv_goto (tgt := 10) hx hb dX5_keeps_35 (by decide) ?_
          have e_14 : (shF (kMpast z) (i10 + 1)) = (upd (shF (kMpast z) i10) i10 ((shF (kMpast z) i10) (i10 + 102))) := shF_s _ _
          exact ih10 (i10 + 1) (by omega) (by omega) (by omega) _ _ (by rw [e_14]; exact hP) (by rw [e_14]; exact hD) hS ls (by exact lv_sub hl [0, 1] rfl)
    have e_15 : (nI 0) = 0 := by first | rfl | decide
    have e_16 : (shF (kMpast z) 0) = (kMpast z) := shF_0 _
    exact L10 (408 + 1) 0 (by omega) (by omega) (by omega) _ _ (by rw [e_16]; exact hP) (by rw [e_16]; exact hD) hS ls (by rw [e_15]; exact lv_sub hl [0, 1] rfl)
theorem cd_X5_keeps : yX5_keeps.cls = RX5 ∧ yX5_keeps.cls ≠ "java/lang/invoke/MethodHandle" ∧ yX5_keeps.cls ≠ "java/lang/invoke/VarHandle" ∧ (parseMethodDescriptor yX5_keeps.desc).map (fun d => d.parameters.length) = some 0 := by decide +kernel
-- X5_acted
set_option maxHeartbeats 4000000 in
set_option maxRecDepth 100000 in
theorem c_X5_acted (l : Launch) (G : va_G) (cI cQ : ClassId) (q : Nat → Nat) (z : MS) (hk : kMkept z ≤ 5) (p0 : Int32) (sz0 : Nat) : Met l yX5_acted wsX5_acted ({ frames := 1, cells := 0, slots := 0, locals := 21 } : Room) (mPc G cI cQ [.ref (q 0), .int p0] ((mdT cI q z)) sz0) (va_Qi (fun (r : Int32) (_ : Unit) => r = p0) (mB G (va_A ((mdT cI q z)) sz0) (fun _ => (mdT cI q (gActed z p0)))) (va_A ((mdT cI q z)) sz0)) 0 0 (va_A ((mdT cI q z)) sz0) := by
  refine mm_of (cc := cX5_acted) (maxL := 2) (ret := (some .int)) (own := RX5) (by decide) rfl rfl (Nat.le_of_ble_eq_true rfl) rfl ?_
  intro p e s m below meth cd ls A hx hb hr hts hown hlocks hml hA hK hP hD hS hl
  refine lv_iload_n hx hb dX5_acted_0 rfl (lv_at hl 1 rfl) ?_
  refine lv_if_lt (tgt := 8) hx hb dX5_acted_1 (by decide) (fun c_1 => ?_) (fun c_1 => ?_)
  · skip
    refine lv_iload_n hx hb dX5_acted_8 rfl (lv_at hl 1 rfl) ?_
    exact m_ret () hx hb hr hlocks rfl (by first | rfl | (simp only [gActed, eq_true c_1, eq_false (Int32.not_le.mpr c_1), if_true, if_false, and_true, true_and, and_false, false_and, or_true, true_or, or_false, false_or, not_true_eq_false, not_false_eq_true, ne_eq, ite_true, ite_false]; done) | (simp only [gActed, eq_true c_1, eq_false (Int32.not_le.mpr c_1), if_true, if_false, and_true, true_and, and_false, false_and, or_true, true_or, or_false, false_or, not_true_eq_false, not_false_eq_true, ne_eq, ite_true, ite_false]; rfl)) (by rw [show (gActed z p0) = z from by first | rfl | (simp only [gActed, eq_true c_1, eq_false (Int32.not_le.mpr c_1), if_true, if_false, and_true, true_and, and_false, false_and, or_true, true_or, or_false, false_or, not_true_eq_false, not_false_eq_true, ne_eq, ite_true, ite_false]; done) | (simp only [gActed, eq_true c_1, eq_false (Int32.not_le.mpr c_1), if_true, if_false, and_true, true_and, and_false, false_and, or_true, true_or, or_false, false_or, not_true_eq_false, not_false_eq_true, ne_eq, ite_true, ite_false]; rfl)]; exact hP) (by rw [show (gActed z p0) = z from by first | rfl | (simp only [gActed, eq_true c_1, eq_false (Int32.not_le.mpr c_1), if_true, if_false, and_true, true_and, and_false, false_and, or_true, true_or, or_false, false_or, not_true_eq_false, not_false_eq_true, ne_eq, ite_true, ite_false]; done) | (simp only [gActed, eq_true c_1, eq_false (Int32.not_le.mpr c_1), if_true, if_false, and_true, true_and, and_false, false_and, or_true, true_or, or_false, false_or, not_true_eq_false, not_false_eq_true, ne_eq, ite_true, ite_false]; rfl)]; exact hD) hS dX5_acted_9
  · skip
    refine lv_aload_n hx hb dX5_acted_4 rfl (lv_at hl 0 rfl) ?_
    refine mcVv (rest := []) (wr := []) ⟨hx, hb, hml, hown, hts⟩ (c_X5_keeps l G cI cQ q z hk _) (cwV 0 hts gX5_acted_X5_keeps rfl rfl rfl cd_X5_keeps ⟨Nat.le_of_ble_eq_true rfl, Nat.le_of_ble_eq_true rfl⟩) hK hP hD hS hA [0, 1, 2, 3, 4, 5, 6] [] rfl rfl (by decide) (by decide) (by decide) 0 rfl rfl rfl rfl hl.1 rfl (Nat.le_of_ble_eq_true rfl) dX5_acted_5 ⟨Nat.zero_le _, Nat.zero_le _⟩ (fun _ H locs _ hP hD hS => ?_)
    have hP : va_P G vwCl ((mdT cI q (uMkept (uMpast z (mPast (kMpast z) (kMbef z) (kMkept z))) (mKept (kMkept z))))) H := hP
    have hD : va_D A ((mdT cI q (uMkept (uMpast z (mPast (kMpast z) (kMbef z) (kMkept z))) (mKept (kMkept z))))) := hD
    refine lv_iload_n hx hb dX5_acted_8 rfl (lv_at hl 1 rfl) ?_
    exact m_ret () hx hb hr hlocks rfl (by first | rfl | (simp only [gActed, eq_false c_1, eq_true (Int32.not_lt.mp c_1), if_true, if_false, and_true, true_and, and_false, false_and, or_true, true_or, or_false, false_or, not_true_eq_false, not_false_eq_true, ne_eq, ite_true, ite_false]; done) | (simp only [gActed, eq_false c_1, eq_true (Int32.not_lt.mp c_1), if_true, if_false, and_true, true_and, and_false, false_and, or_true, true_or, or_false, false_or, not_true_eq_false, not_false_eq_true, ne_eq, ite_true, ite_false]; rfl)) (by rw [show (gActed z p0) = (uMkept (uMpast z (mPast (kMpast z) (kMbef z) (kMkept z))) (mKept (kMkept z))) from by first | rfl | (simp only [gActed, eq_false c_1, eq_true (Int32.not_lt.mp c_1), if_true, if_false, and_true, true_and, and_false, false_and, or_true, true_or, or_false, false_or, not_true_eq_false, not_false_eq_true, ne_eq, ite_true, ite_false]; done) | (simp only [gActed, eq_false c_1, eq_true (Int32.not_lt.mp c_1), if_true, if_false, and_true, true_and, and_false, false_and, or_true, true_or, or_false, false_or, not_true_eq_false, not_false_eq_true, ne_eq, ite_true, ite_false]; rfl)]; exact hP) (by rw [show (gActed z p0) = (uMkept (uMpast z (mPast (kMpast z) (kMbef z) (kMkept z))) (mKept (kMkept z))) from by first | rfl | (simp only [gActed, eq_false c_1, eq_true (Int32.not_lt.mp c_1), if_true, if_false, and_true, true_and, and_false, false_and, or_true, true_or, or_false, false_or, not_true_eq_false, not_false_eq_true, ne_eq, ite_true, ite_false]; done) | (simp only [gActed, eq_false c_1, eq_true (Int32.not_lt.mp c_1), if_true, if_false, and_true, true_and, and_false, false_and, or_true, true_or, or_false, false_or, not_true_eq_false, not_false_eq_true, ne_eq, ite_true, ite_false]; rfl)]; exact hD) hS dX5_acted_9
theorem cd_X5_acted : yX5_acted.cls = RX5 ∧ yX5_acted.cls ≠ "java/lang/invoke/MethodHandle" ∧ yX5_acted.cls ≠ "java/lang/invoke/VarHandle" ∧ (parseMethodDescriptor yX5_acted.desc).map (fun d => d.parameters.length) = some 1 := by decide +kernel
-- X5_undo
theorem lk_X5_undo_1 : Cond.fieldLink RX5 28 "EvenLoadsModel" "kept" "I" ∈ wsX5_undo := List.mem_of_getElem? (i := 1) (by decide +kernel)
theorem lk_X5_undo_2 : Cond.fieldLink RX5 7 "EvenLoadsModel" "s" "[I" ∈ wsX5_undo := List.mem_of_getElem? (i := 2) (by decide +kernel)
theorem lk_X5_undo_3 : Cond.fieldLink RX5 13 "EvenLoadsModel" "past" "[I" ∈ wsX5_undo := List.mem_of_getElem? (i := 3) (by decide +kernel)
theorem in_X5_undo_X5 : ∀ w ∈ wsX50, w ∈ wsX5_undo := by decide +kernel
set_option maxHeartbeats 4000000 in
set_option maxRecDepth 100000 in
theorem c_X5_undo (l : Launch) (G : va_G) (cI cQ : ClassId) (q : Nat → Nat) (z : MS) (nv nj : Nat) (hm : MI (kMs z) nv nj) (hk : kMkept z ≤ 5) (sz0 : Nat) : Met l yX5_undo wsX5_undo ({ frames := 0, cells := 0, slots := 0, locals := 0 } : Room) (mPc G cI cQ [.ref (q 0)] ((mdT cI q z)) sz0) (va_Qi (fun (r : Int32) (_ : Unit) => r = rUndo z) (mB G (va_A ((mdT cI q z)) sz0) (fun _ => (mdT cI q (gUndo z)))) (va_A ((mdT cI q z)) sz0)) 0 0 (va_A ((mdT cI q z)) sz0) := by
  refine mm_of (cc := cX5_undo) (maxL := 2) (ret := (some .int)) (own := RX5) (by decide) rfl rfl (Nat.le_of_ble_eq_true rfl) rfl ?_
  intro p e s m below meth cd ls A hx hb hr hts hown hlocks hml hA hK hP hD hS hl
  refine lv_aload_n hx hb dX5_undo_0 rfl (lv_at hl 0 rfl) ?_
  refine va_get (D := G) (ci := 5) (v := .int (nI (kMkept z))) (C := RX5) (T := TX5) (N := 15) hx hb hts in_X5_undo_X5 hown hK.1 hP 0 rfl rfl 3 (by decide) (hts _ lk_X5_undo_1) (fun _ h9 => h9) rfl dX5_undo_1 ?_
  refine lv_if_ne (tgt := 10) hx hb dX5_undo_4 (by decide) (fun c_1 => ?_) (fun c_1 => ?_)
  · skip
    have hk0 : ¬ kMkept z = 0 := fun q => c_1 (by rw [q]; rfl)
    refine lv_aload_n hx hb dX5_undo_10 rfl (lv_at hl 0 rfl) ?_
    refine lv_dup hx hb dX5_undo_11 rfl ?_
    refine va_get (D := G) (ci := 5) (v := .int (nI (kMkept z))) (C := RX5) (T := TX5) (N := 15) hx hb hts in_X5_undo_X5 hown hK.1 hP 0 rfl rfl 3 (by decide) (hts _ lk_X5_undo_1) (fun _ h9 => h9) rfl dX5_undo_12 ?_
    refine lv_iconst (v := 1) hx hb dX5_undo_15 (by decide) ?_
    refine lv_isub hx hb dX5_undo_16 ?_
    refine lv_cvt (y := (nI (kMkept z - 1))) (show nI (kMkept z) - nI 1 = nI (kMkept z - 1) from pk_sub (by omega)) ?_
    refine va_put (D := G) (ci := 5) (v := .int (nI (kMkept z - 1))) (ty := .int) (C := RX5) (T := TX5) (N := 15) hx hb hts in_X5_undo_X5 tyX5 tyX5_ok nmX5 hown hK.1 hP hD hS 0 rfl rfl 3 (by decide) (hts _ lk_X5_undo_1) (fun _ h9 => h9) rfl (by decide +kernel) rfl rfl (Nat.le_of_ble_eq_true rfl) dX5_undo_17 (fun H locs hP hD hS => ?_)
    have hP : va_P G vwCl ((mdT cI q (uMkept z (kMkept z - 1)))) H := hP
    have hD : va_D A ((mdT cI q (uMkept z (kMkept z - 1)))) := hD
    refine lv_iconst (v := 0) hx hb dX5_undo_20 (by decide) ?_
    refine lv_istore_n (lv' := [(1, .int 0), (0, .ref (q 0))]) hx hb dX5_undo_21 rfl hl (by decide) rfl (fun ls hl => ?_)
    have L22 : ∀ (n22 i22 : Nat), 0 ≤ i22 → i22 ≤ 102 → 102 + 1 ≤ i22 + n22 → ∀ (H : Heap) (locs : List Loc), va_P G vwCl ((mdT cI q (uMkept (uMs z (rwF (kMpast z) (kMs z) (102 * (kMkept z - 1)) i22)) (kMkept z - 1)))) H → va_D A ((mdT cI q (uMkept (uMs z (rwF (kMpast z) (kMs z) (102 * (kMkept z - 1)) i22)) (kMkept z - 1)))) → va_S A s.heap H locs → ∀ (ls : Array Slot), lv_has ls 2 [(1, .int (nI i22)), (0, .ref (q 0))] → W p l e ({ frames := 0, cells := 0, slots := 0, locals := 0 } : Room) s m ([.ref (q 0)] : List Value).toArray below meth cd H locs 0 0 (MQ below (va_Qi (fun (r : Int32) (_ : Unit) => r = rUndo z) (mB G (A) (fun _ => (mdT cI q (gUndo z)))) (A)) ([.ref (q 0)] : List Value).toArray s 0 0 A) (F0 m 22 ls []) := by
      intro n22
      induction n22 with
      | zero => intro i22 h0 h1 h2; exact absurd h2 (by omega)
      | succ n22 ih22 =>
        intro i22 hlo22 hle22 hin22 H locs hP hD hS ls hl
        refine lv_iload_n hx hb dX5_undo_22 rfl (lv_at hl 0 rfl) ?_
        refine lv_bipush (v := 102) hx hb dX5_undo_23 (by decide) ?_
        refine lv_icmp_ge (tgt := 54) hx hb dX5_undo_25 (by decide) (fun c_2 => ?_) (fun c_2 => ?_)
        · skip
          have q_3 : 102 = i22 := by have h9 := (nI_leI (a := 102) (b := i22) (by omega) (by omega)).mp c_2; omega
          subst q_3
          have hP := hP.arr 1 (f := (rwF (kMpast z) (kMs z) (102 * (kMkept z - 1)) 102)) (g := (fun k => kMpast z (102 * (kMkept z - 1) + k))) rfl (fun j hj => by simp only [rwF]; rw [if_pos hj])
          have hD := hD.set (p := 1) (e := .inl (cI, 102, .inl ((fun k => kMpast z (102 * (kMkept z - 1) + k))))) rfl
          have hP : va_P G vwCl ((mdT cI q (uMkept (uMs z (fun k => kMpast z (102 * (kMkept z - 1) + k))) (kMkept z - 1)))) H := hP
          have hD : va_D A ((mdT cI q (uMkept (uMs z (fun k => kMpast z (102 * (kMkept z - 1) + k))) (kMkept z - 1)))) := hD
          refine lv_aload_n hx hb dX5_undo_54 rfl (lv_at hl 1 rfl) ?_
          refine va_get (D := G) (ci := 5) (v := .int (nI (kMkept z - 1))) (C := RX5) (T := TX5) (N := 15) hx hb hts in_X5_undo_X5 hown hK.1 hP 0 rfl rfl 3 (by decide) (hts _ lk_X5_undo_1) (fun _ h9 => h9) rfl dX5_undo_55 ?_
          exact m_ret () hx hb hr hlocks rfl (by (simp only [rUndo, gUndo, eq_false hk0, if_true, if_false, and_true, true_and, and_false, false_and, or_true, true_or, or_false, false_or, not_true_eq_false, not_false_eq_true, ne_eq, ite_true, ite_false]; try rfl)) (by rw [show (gUndo z) = (uMkept (uMs z (fun k => kMpast z (102 * (kMkept z - 1) + k))) (kMkept z - 1)) from by (simp only [rUndo, gUndo, eq_false hk0, if_true, if_false, and_true, true_and, and_false, false_and, or_true, true_or, or_false, false_or, not_true_eq_false, not_false_eq_true, ne_eq, ite_true, ite_false]; try rfl)]; exact hP) (by rw [show (gUndo z) = (uMkept (uMs z (fun k => kMpast z (102 * (kMkept z - 1) + k))) (kMkept z - 1)) from by (simp only [rUndo, gUndo, eq_false hk0, if_true, if_false, and_true, true_and, and_false, false_and, or_true, true_or, or_false, false_or, not_true_eq_false, not_false_eq_true, ne_eq, ite_true, ite_false]; try rfl)]; exact hD) hS dX5_undo_58
        · skip
          have hlt22 : i22 < 102 := Nat.lt_of_not_le (fun q => c_2 ((nI_leI (a := 102) (b := i22) (by omega) (by omega)).mpr q))
          refine lv_aload_n hx hb dX5_undo_28 rfl (lv_at hl 1 rfl) ?_
          refine va_get (D := G) (ci := 5) (v := .ref (q 1)) (C := RX5) (T := TX5) (N := 15) hx hb hts in_X5_undo_X5 hown hK.1 hP 0 rfl rfl 0 (by decide) (hts _ lk_X5_undo_2) (fun _ h9 => h9) rfl dX5_undo_29 ?_
          refine lv_iload_n hx hb dX5_undo_32 rfl (lv_at hl 0 rfl) ?_
          refine lv_aload_n hx hb dX5_undo_33 rfl (lv_at hl 1 rfl) ?_
          refine va_get (D := G) (ci := 5) (v := .ref (q 2)) (C := RX5) (T := TX5) (N := 15) hx hb hts in_X5_undo_X5 hown hK.1 hP 0 rfl rfl 1 (by decide) (hts _ lk_X5_undo_3) (fun _ h9 => h9) rfl dX5_undo_34 ?_
          refine lv_bipush (v := 102) hx hb dX5_undo_37 (by decide) ?_
          refine lv_aload_n hx hb dX5_undo_39 rfl (lv_at hl 1 rfl) ?_
          refine va_get (D := G) (ci := 5) (v := .int (nI (kMkept z - 1))) (C := RX5) (T := TX5) (N := 15) hx hb hts in_X5_undo_X5 hown hK.1 hP 0 rfl rfl 3 (by decide) (hts _ lk_X5_undo_1) (fun _ h9 => h9) rfl dX5_undo_40 ?_
          refine lv_imul hx hb dX5_undo_43 ?_
          refine lv_iload_n hx hb dX5_undo_44 rfl (lv_at hl 0 rfl) ?_
          refine lv_iadd hx hb dX5_undo_45 ?_
          refine iald_n hx hb hK hP 2 rfl (102 * (kMkept z - 1) + i22) (hxl (kMkept z - 1) i22) (by omega) (by decide) dX5_undo_46 ?_
          refine iast_n hx hb hK hP hD hS 1 rfl i22 rfl (by omega) (by decide) dX5_undo_47 (fun H locs hP hD hS => ?_)
          have hP : va_P G vwCl ((mdT cI q (uMkept (uMs z (upd (rwF (kMpast z) (kMs z) (102 * (kMkept z - 1)) i22) i22 ((kMpast z) (102 * (kMkept z - 1) + i22)))) (kMkept z - 1)))) H := hP
          have hD : va_D A ((mdT cI q (uMkept (uMs z (upd (rwF (kMpast z) (kMs z) (102 * (kMkept z - 1)) i22) i22 ((kMpast z) (102 * (kMkept z - 1) + i22)))) (kMkept z - 1)))) := hD
          refine lv_iinc (v := (nI (i22 + 1))) (lv' := [(1, .int (nI (i22 + 1))), (0, .ref (q 0))]) hx hb dX5_undo_48 hl (k := 0) rfl (nI_1 i22) (by decide) rfl (fun ls hl => ?_)
          refine lv_goto (tgt := 22) hx hb dX5_undo_51 (by decide) ?_
          have e_4 : (rwF (kMpast z) (kMs z) (102 * (kMkept z - 1)) (i22 + 1)) = (upd (rwF (kMpast z) (kMs z) (102 * (kMkept z - 1)) i22) i22 ((kMpast z) (102 * (kMkept z - 1) + i22))) := rwF_s _ _ _ _
          exact ih22 (i22 + 1) (by omega) (by omega) (by omega) _ _ (by rw [e_4]; exact hP) (by rw [e_4]; exact hD) hS ls (by exact lv_sub hl [0, 1] rfl)
    have e_5 : (nI 0) = 0 := by first | rfl | decide
    have e_6 : (rwF (kMpast z) (kMs z) (102 * (kMkept z - 1)) 0) = (kMs z) := rwF_0 _ _ _
    exact L22 (102 + 1) 0 (by omega) (by omega) (by omega) _ _ (by rw [e_6]; exact hP) (by rw [e_6]; exact hD) hS ls (by rw [e_5]; exact lv_sub hl [0, 1] rfl)
  · skip
    have hk0 : kMkept z = 0 := (nI_eq (a := kMkept z) (b := 0) (by omega) (by decide)).mp c_1
    refine lv_bipush (v := (-2)) hx hb dX5_undo_7 (by decide) ?_
    exact m_ret () hx hb hr hlocks rfl (by (simp only [rUndo, gUndo, eq_true hk0, if_true, if_false, and_true, true_and, and_false, false_and, or_true, true_or, or_false, false_or, not_true_eq_false, not_false_eq_true, ne_eq, ite_true, ite_false]; try rfl)) (by rw [show (gUndo z) = z from by (simp only [rUndo, gUndo, eq_true hk0, if_true, if_false, and_true, true_and, and_false, false_and, or_true, true_or, or_false, false_or, not_true_eq_false, not_false_eq_true, ne_eq, ite_true, ite_false]; try rfl)]; exact hP) (by rw [show (gUndo z) = z from by (simp only [rUndo, gUndo, eq_true hk0, if_true, if_false, and_true, true_and, and_false, false_and, or_true, true_or, or_false, false_or, not_true_eq_false, not_false_eq_true, ne_eq, ite_true, ite_false]; try rfl)]; exact hD) hS dX5_undo_9
theorem cd_X5_undo : yX5_undo.cls = RX5 ∧ yX5_undo.cls ≠ "java/lang/invoke/MethodHandle" ∧ yX5_undo.cls ≠ "java/lang/invoke/VarHandle" ∧ (parseMethodDescriptor yX5_undo.desc).map (fun d => d.parameters.length) = some 0 := by decide +kernel
-- X5_manyOn
theorem lk_X5_manyOn_1 : Cond.fieldLink RX5 7 "EvenLoadsModel" "s" "[I" ∈ wsX5_manyOn := List.mem_of_getElem? (i := 1) (by decide +kernel)
theorem in_X5_manyOn_X5 : ∀ w ∈ wsX50, w ∈ wsX5_manyOn := by decide +kernel
set_option maxHeartbeats 4000000 in
set_option maxRecDepth 100000 in
theorem c_X5_manyOn (l : Launch) (G : va_G) (cI cQ : ClassId) (q : Nat → Nat) (z : MS) (nv nj : Nat) (hm : MI (kMs z) nv nj) (p0 : Int32) : Met l yX5_manyOn wsX5_manyOn ({ frames := 1, cells := 0, slots := 0, locals := 22 } : Room) (pPc G cI cQ [.ref (q 0), .int p0] ((mdT cI q z))) (vp_Si (fun r => r = (mCnF (kMs z) p0 nj))) 0 0 (fun _ => False) := by
  refine pm_of (cc := cX5_manyOn) (maxL := 4) (ret := (some .int)) (own := RX5) (by decide) rfl rfl (Nat.le_of_ble_eq_true rfl) rfl ?_
  intro p e s m below meth cd ls hx hb hr hts hown hlocks hml hK hP hl
  refine lv_iconst (v := 0) hx hb dX5_manyOn_0 (by decide) ?_
  refine lv_istore_n (lv' := [(2, .int 0), (0, .ref (q 0)), (1, .int p0)]) hx hb dX5_manyOn_1 rfl hl (by decide) rfl (fun ls hl => ?_)
  refine lv_iconst (v := 0) hx hb dX5_manyOn_2 (by decide) ?_
  refine lv_istore_n (lv' := [(3, .int 0), (2, .int 0), (0, .ref (q 0)), (1, .int p0)]) hx hb dX5_manyOn_3 rfl hl (by decide) rfl (fun ls hl => ?_)
  have L4 : ∀ (n4 i4 : Nat), 0 ≤ i4 → i4 ≤ nj → nj + 1 ≤ i4 + n4 → ∀ (ls : Array Slot), lv_has ls 4 [(3, .int (nI i4)), (2, .int (mCnF (kMs z) p0 i4)), (0, .ref (q 0)), (1, .int p0)] → W p l e ({ frames := 1, cells := 0, slots := 0, locals := 22 } : Room) s m ([.ref (q 0), .int p0] : List Value).toArray below meth cd s.heap [] 0 0 (MQ below (vp_Si (fun r => r = (mCnF (kMs z) p0 nj))) ([.ref (q 0), .int p0] : List Value).toArray s 0 0 (fun _ => False)) (F0 m 4 ls []) := by
    intro n4
    induction n4 with
    | zero => intro i4 h0 h1 h2; exact absurd h2 (by omega)
    | succ n4 ih4 =>
      intro i4 hlo4 hle4 hin4 ls hl
      have hnj := hm.2.2.2
      refine lv_iload_n hx hb dX5_manyOn_4 rfl (lv_at hl 0 rfl) ?_
      refine lv_aload_n hx hb dX5_manyOn_5 rfl (lv_at hl 2 rfl) ?_
      refine va_get (D := G) (ci := 5) (v := .ref (q 1)) (C := RX5) (T := TX5) (N := 15) hx hb hts in_X5_manyOn_X5 hown hK.1 hP 0 rfl rfl 0 (by decide) (hts _ lk_X5_manyOn_1) (fun _ h9 => h9) rfl dX5_manyOn_6 ?_
      refine lv_iconst (v := 2) hx hb dX5_manyOn_9 (by decide) ?_
      refine iald_n hx hb hK hP 1 rfl 2 rfl (by decide) (by decide) dX5_manyOn_10 ?_
      refine lv_cvt (y := (nI nj)) (hm).2.2.1 ?_
      refine lv_icmp_ge (tgt := 38) hx hb dX5_manyOn_11 (by decide) (fun c_1 => ?_) (fun c_1 => ?_)
      · skip
        have q_2 : nj = i4 := by have h9 := (nI_leI (a := nj) (b := i4) (by omega) (by omega)).mp c_1; omega
        subst q_2
        refine lv_iload_n hx hb dX5_manyOn_38 rfl (lv_at hl 1 rfl) ?_
        exact p_ret hx hb hr hlocks rfl (by first | rfl | (simp only [mCnF, if_true, if_false, and_true, true_and, and_false, false_and, or_true, true_or, or_false, false_or, not_true_eq_false, not_false_eq_true, ne_eq, ite_true, ite_false]; done) | (simp only [mCnF, if_true, if_false, and_true, true_and, and_false, false_and, or_true, true_or, or_false, false_or, not_true_eq_false, not_false_eq_true, ne_eq, ite_true, ite_false]; rfl)) dX5_manyOn_39
      · skip
        have hlt4 : i4 < nj := Nat.lt_of_not_le (fun q => c_1 ((nI_leI (a := nj) (b := i4) (by omega) (by omega)).mpr q))
        refine lv_iload_n hx hb dX5_manyOn_14 rfl (lv_at hl 1 rfl) ?_
        refine lv_aload_n hx hb dX5_manyOn_15 rfl (lv_at hl 2 rfl) ?_
        refine lv_iload_n hx hb dX5_manyOn_16 rfl (lv_at hl 0 rfl) ?_
        refine lv_iconst (v := 2) hx hb dX5_manyOn_17 (by decide) ?_
        refine pcV (rest := [.int (mCnF (kMs z) p0 i4)]) ⟨hx, hb, hml, hown, hts⟩ (c_X5_of l G cI cQ q z nv nj hm (nI i4) 2 (vp_in_nI (by have := hm.2.2.2; omega) (by decide)) (vp_in_nI (n := 2) (N := 4) (by decide) (by decide))) (cwV 2 hts gX5_manyOn_X5_of rfl rfl rfl cd_X5_of ⟨Nat.le_of_ble_eq_true rfl, Nat.le_of_ble_eq_true rfl⟩) hK hP [0, 1, 2, 3, 4, 5, 6] rfl 0 rfl rfl rfl rfl hl.1 rfl (Nat.le_of_ble_eq_true rfl) dX5_manyOn_18 ⟨Nat.zero_le _, Nat.zero_le _⟩ ?_
        refine lv_iload_n hx hb dX5_manyOn_21 rfl (lv_at hl 3 rfl) ?_
        refine lv_icmp_ne (tgt := 29) hx hb dX5_manyOn_22 (by decide) (fun c_3 => ?_) (fun c_3 => ?_)
        · skip
          refine lv_iconst (v := 0) hx hb dX5_manyOn_29 (by decide) ?_
          refine lv_iadd hx hb dX5_manyOn_30 ?_
          refine lv_istore_n (lv' := [(2, .int ((mCnF (kMs z) p0 i4) + 0)), (3, .int (nI i4)), (0, .ref (q 0)), (1, .int p0)]) hx hb dX5_manyOn_31 rfl hl (by decide) rfl (fun ls hl => ?_)
          refine lv_iinc (v := (nI (i4 + 1))) (lv' := [(3, .int (nI (i4 + 1))), (2, .int ((mCnF (kMs z) p0 i4) + 0)), (0, .ref (q 0)), (1, .int p0)]) hx hb dX5_manyOn_32 hl (k := 1) rfl (nI_1 i4) (by decide) rfl (fun ls hl => ?_)
          refine lv_goto (tgt := 4) hx hb dX5_manyOn_35 (by decide) ?_
          have e_4 : (mCnF (kMs z) p0 (i4 + 1)) = ((mCnF (kMs z) p0 i4) + 0) := by first | rfl | (simp only [mCnF, eq_false c_3, eq_false (Ne.symm c_3), if_true, if_false, and_true, true_and, and_false, false_and, or_true, true_or, or_false, false_or, not_true_eq_false, not_false_eq_true, ne_eq, ite_true, ite_false]; done) | (simp only [mCnF, eq_false c_3, eq_false (Ne.symm c_3), if_true, if_false, and_true, true_and, and_false, false_and, or_true, true_or, or_false, false_or, not_true_eq_false, not_false_eq_true, ne_eq, ite_true, ite_false]; rfl)
          exact ih4 (i4 + 1) (by omega) (by omega) (by omega) ls (by rw [e_4]; exact lv_sub hl [0, 1, 2, 3] rfl)
        · skip
          refine lv_iconst (v := 1) hx hb dX5_manyOn_25 (by decide) ?_
          refine lv_goto (tgt := 30) hx hb dX5_manyOn_26 (by decide) ?_
          refine lv_iadd hx hb dX5_manyOn_30 ?_
          refine lv_istore_n (lv' := [(2, .int ((mCnF (kMs z) p0 i4) + 1)), (3, .int (nI i4)), (0, .ref (q 0)), (1, .int p0)]) hx hb dX5_manyOn_31 rfl hl (by decide) rfl (fun ls hl => ?_)
          refine lv_iinc (v := (nI (i4 + 1))) (lv' := [(3, .int (nI (i4 + 1))), (2, .int ((mCnF (kMs z) p0 i4) + 1)), (0, .ref (q 0)), (1, .int p0)]) hx hb dX5_manyOn_32 hl (k := 1) rfl (nI_1 i4) (by decide) rfl (fun ls hl => ?_)
          refine lv_goto (tgt := 4) hx hb dX5_manyOn_35 (by decide) ?_
          have e_5 : (mCnF (kMs z) p0 (i4 + 1)) = ((mCnF (kMs z) p0 i4) + 1) := by first | rfl | (simp only [mCnF, eq_true c_3, eq_true (Eq.symm c_3), if_true, if_false, and_true, true_and, and_false, false_and, or_true, true_or, or_false, false_or, not_true_eq_false, not_false_eq_true, ne_eq, ite_true, ite_false]; done) | (simp only [mCnF, eq_true c_3, eq_true (Eq.symm c_3), if_true, if_false, and_true, true_and, and_false, false_and, or_true, true_or, or_false, false_or, not_true_eq_false, not_false_eq_true, ne_eq, ite_true, ite_false]; rfl)
          exact ih4 (i4 + 1) (by omega) (by omega) (by omega) ls (by rw [e_5]; exact lv_sub hl [0, 1, 2, 3] rfl)
  have e_6 : (nI 0) = 0 := by first | rfl | decide
  have e_7 : (mCnF (kMs z) p0 0) = 0 := by first | rfl | (simp only [mCnF, if_true, if_false, and_true, true_and, and_false, false_and, or_true, true_or, or_false, false_or, not_true_eq_false, not_false_eq_true, ne_eq, ite_true, ite_false]; done) | (simp only [mCnF, if_true, if_false, and_true, true_and, and_false, false_and, or_true, true_or, or_false, false_or, not_true_eq_false, not_false_eq_true, ne_eq, ite_true, ite_false]; rfl)
  exact L4 (nj + 1) 0 (by omega) (by omega) (by omega) ls (by rw [e_6]; rw [e_7]; exact lv_sub hl [0, 1, 2, 3] rfl)
theorem cd_X5_manyOn : yX5_manyOn.cls = RX5 ∧ yX5_manyOn.cls ≠ "java/lang/invoke/MethodHandle" ∧ yX5_manyOn.cls ≠ "java/lang/invoke/VarHandle" ∧ (parseMethodDescriptor yX5_manyOn.desc).map (fun d => d.parameters.length) = some 1 := by decide +kernel
-- X5_jobsOn
theorem lk_X5_jobsOn_1 : Cond.fieldLink RX5 7 "EvenLoadsModel" "s" "[I" ∈ wsX5_jobsOn := List.mem_of_getElem? (i := 1) (by decide +kernel)
theorem in_X5_jobsOn_X5 : ∀ w ∈ wsX50, w ∈ wsX5_jobsOn := by decide +kernel
set_option maxHeartbeats 4000000 in
set_option maxRecDepth 100000 in
theorem c_X5_jobsOn (l : Launch) (G : va_G) (cI cQ : ClassId) (q : Nat → Nat) (z : MS) (nv nj : Nat) (hm : MI (kMs z) nv nj) (p0 : Int32) : Met l yX5_jobsOn wsX5_jobsOn ({ frames := 1, cells := 0, slots := 0, locals := 22 } : Room) (pPc G cI cQ [.ref (q 0), .int p0] ((mdT cI q z))) (vp_Si (fun r => r = (mOnF (kMs z) p0 nj))) 0 0 (fun _ => False) := by
  refine pm_of (cc := cX5_jobsOn) (maxL := 4) (ret := (some .int)) (own := RX5) (by decide) rfl rfl (Nat.le_of_ble_eq_true rfl) rfl ?_
  intro p e s m below meth cd ls hx hb hr hts hown hlocks hml hK hP hl
  refine lv_iconst (v := 0) hx hb dX5_jobsOn_0 (by decide) ?_
  refine lv_istore_n (lv' := [(2, .int 0), (0, .ref (q 0)), (1, .int p0)]) hx hb dX5_jobsOn_1 rfl hl (by decide) rfl (fun ls hl => ?_)
  refine lv_iconst (v := 0) hx hb dX5_jobsOn_2 (by decide) ?_
  refine lv_istore_n (lv' := [(3, .int 0), (2, .int 0), (0, .ref (q 0)), (1, .int p0)]) hx hb dX5_jobsOn_3 rfl hl (by decide) rfl (fun ls hl => ?_)
  have L4 : ∀ (n4 i4 : Nat), 0 ≤ i4 → i4 ≤ nj → nj + 1 ≤ i4 + n4 → ∀ (ls : Array Slot), lv_has ls 4 [(3, .int (nI i4)), (2, .int (mOnF (kMs z) p0 i4)), (0, .ref (q 0)), (1, .int p0)] → W p l e ({ frames := 1, cells := 0, slots := 0, locals := 22 } : Room) s m ([.ref (q 0), .int p0] : List Value).toArray below meth cd s.heap [] 0 0 (MQ below (vp_Si (fun r => r = (mOnF (kMs z) p0 nj))) ([.ref (q 0), .int p0] : List Value).toArray s 0 0 (fun _ => False)) (F0 m 4 ls []) := by
    intro n4
    induction n4 with
    | zero => intro i4 h0 h1 h2; exact absurd h2 (by omega)
    | succ n4 ih4 =>
      intro i4 hlo4 hle4 hin4 ls hl
      have hnj := hm.2.2.2
      refine lv_iload_n hx hb dX5_jobsOn_4 rfl (lv_at hl 0 rfl) ?_
      refine lv_aload_n hx hb dX5_jobsOn_5 rfl (lv_at hl 2 rfl) ?_
      refine va_get (D := G) (ci := 5) (v := .ref (q 1)) (C := RX5) (T := TX5) (N := 15) hx hb hts in_X5_jobsOn_X5 hown hK.1 hP 0 rfl rfl 0 (by decide) (hts _ lk_X5_jobsOn_1) (fun _ h9 => h9) rfl dX5_jobsOn_6 ?_
      refine lv_iconst (v := 2) hx hb dX5_jobsOn_9 (by decide) ?_
      refine iald_n hx hb hK hP 1 rfl 2 rfl (by decide) (by decide) dX5_jobsOn_10 ?_
      refine lv_cvt (y := (nI nj)) (hm).2.2.1 ?_
      refine lv_icmp_ge (tgt := 40) hx hb dX5_jobsOn_11 (by decide) (fun c_1 => ?_) (fun c_1 => ?_)
      · skip
        have q_2 : nj = i4 := by have h9 := (nI_leI (a := nj) (b := i4) (by omega) (by omega)).mp c_1; omega
        subst q_2
        refine lv_iload_n hx hb dX5_jobsOn_40 rfl (lv_at hl 1 rfl) ?_
        exact p_ret hx hb hr hlocks rfl (by first | rfl | (simp only [mOnF, if_true, if_false, and_true, true_and, and_false, false_and, or_true, true_or, or_false, false_or, not_true_eq_false, not_false_eq_true, ne_eq, ite_true, ite_false]; done) | (simp only [mOnF, if_true, if_false, and_true, true_and, and_false, false_and, or_true, true_or, or_false, false_or, not_true_eq_false, not_false_eq_true, ne_eq, ite_true, ite_false]; rfl)) dX5_jobsOn_41
      · skip
        have hlt4 : i4 < nj := Nat.lt_of_not_le (fun q => c_1 ((nI_leI (a := nj) (b := i4) (by omega) (by omega)).mpr q))
        refine lv_iload_n hx hb dX5_jobsOn_14 rfl (lv_at hl 1 rfl) ?_
        refine lv_aload_n hx hb dX5_jobsOn_15 rfl (lv_at hl 2 rfl) ?_
        refine lv_iload_n hx hb dX5_jobsOn_16 rfl (lv_at hl 0 rfl) ?_
        refine lv_iconst (v := 2) hx hb dX5_jobsOn_17 (by decide) ?_
        refine pcV (rest := [.int (mOnF (kMs z) p0 i4)]) ⟨hx, hb, hml, hown, hts⟩ (c_X5_of l G cI cQ q z nv nj hm (nI i4) 2 (vp_in_nI (by have := hm.2.2.2; omega) (by decide)) (vp_in_nI (n := 2) (N := 4) (by decide) (by decide))) (cwV 2 hts gX5_jobsOn_X5_of rfl rfl rfl cd_X5_of ⟨Nat.le_of_ble_eq_true rfl, Nat.le_of_ble_eq_true rfl⟩) hK hP [0, 1, 2, 3, 4, 5, 6] rfl 0 rfl rfl rfl rfl hl.1 rfl (Nat.le_of_ble_eq_true rfl) dX5_jobsOn_18 ⟨Nat.zero_le _, Nat.zero_le _⟩ ?_
        refine lv_iload_n hx hb dX5_jobsOn_21 rfl (lv_at hl 3 rfl) ?_
        refine lv_icmp_ne (tgt := 31) hx hb dX5_jobsOn_22 (by decide) (fun c_3 => ?_) (fun c_3 => ?_)
        · skip
          refine lv_iconst (v := 0) hx hb dX5_jobsOn_31 (by decide) ?_
          refine lv_ior hx hb dX5_jobsOn_32 ?_
          refine lv_istore_n (lv' := [(2, .int ((mOnF (kMs z) p0 i4) ||| 0)), (3, .int (nI i4)), (0, .ref (q 0)), (1, .int p0)]) hx hb dX5_jobsOn_33 rfl hl (by decide) rfl (fun ls hl => ?_)
          refine lv_iinc (v := (nI (i4 + 1))) (lv' := [(3, .int (nI (i4 + 1))), (2, .int ((mOnF (kMs z) p0 i4) ||| 0)), (0, .ref (q 0)), (1, .int p0)]) hx hb dX5_jobsOn_34 hl (k := 1) rfl (nI_1 i4) (by decide) rfl (fun ls hl => ?_)
          refine lv_goto (tgt := 4) hx hb dX5_jobsOn_37 (by decide) ?_
          have e_4 : (mOnF (kMs z) p0 (i4 + 1)) = ((mOnF (kMs z) p0 i4) ||| 0) := by first | rfl | (simp only [mOnF, eq_false c_3, eq_false (Ne.symm c_3), if_true, if_false, and_true, true_and, and_false, false_and, or_true, true_or, or_false, false_or, not_true_eq_false, not_false_eq_true, ne_eq, ite_true, ite_false]; done) | (simp only [mOnF, eq_false c_3, eq_false (Ne.symm c_3), if_true, if_false, and_true, true_and, and_false, false_and, or_true, true_or, or_false, false_or, not_true_eq_false, not_false_eq_true, ne_eq, ite_true, ite_false]; rfl)
          exact ih4 (i4 + 1) (by omega) (by omega) (by omega) ls (by rw [e_4]; exact lv_sub hl [0, 1, 2, 3] rfl)
        · skip
          refine lv_iconst (v := 1) hx hb dX5_jobsOn_25 (by decide) ?_
          refine lv_iload_n hx hb dX5_jobsOn_26 rfl (lv_at hl 0 rfl) ?_
          refine lv_ishl hx hb dX5_jobsOn_27 ?_
          refine lv_goto (tgt := 32) hx hb dX5_jobsOn_28 (by decide) ?_
          refine lv_ior hx hb dX5_jobsOn_32 ?_
          refine lv_istore_n (lv' := [(2, .int ((mOnF (kMs z) p0 i4) ||| (1 <<< ((nI i4) &&& 31)))), (3, .int (nI i4)), (0, .ref (q 0)), (1, .int p0)]) hx hb dX5_jobsOn_33 rfl hl (by decide) rfl (fun ls hl => ?_)
          refine lv_iinc (v := (nI (i4 + 1))) (lv' := [(3, .int (nI (i4 + 1))), (2, .int ((mOnF (kMs z) p0 i4) ||| (1 <<< ((nI i4) &&& 31)))), (0, .ref (q 0)), (1, .int p0)]) hx hb dX5_jobsOn_34 hl (k := 1) rfl (nI_1 i4) (by decide) rfl (fun ls hl => ?_)
          refine lv_goto (tgt := 4) hx hb dX5_jobsOn_37 (by decide) ?_
          have e_5 : (mOnF (kMs z) p0 (i4 + 1)) = ((mOnF (kMs z) p0 i4) ||| (1 <<< ((nI i4) &&& 31))) := by first | rfl | (simp only [mOnF, eq_true c_3, eq_true (Eq.symm c_3), if_true, if_false, and_true, true_and, and_false, false_and, or_true, true_or, or_false, false_or, not_true_eq_false, not_false_eq_true, ne_eq, ite_true, ite_false]; done) | (simp only [mOnF, eq_true c_3, eq_true (Eq.symm c_3), if_true, if_false, and_true, true_and, and_false, false_and, or_true, true_or, or_false, false_or, not_true_eq_false, not_false_eq_true, ne_eq, ite_true, ite_false]; rfl)
          exact ih4 (i4 + 1) (by omega) (by omega) (by omega) ls (by rw [e_5]; exact lv_sub hl [0, 1, 2, 3] rfl)
  have e_6 : (nI 0) = 0 := by first | rfl | decide
  have e_7 : (mOnF (kMs z) p0 0) = 0 := by first | rfl | (simp only [mOnF, if_true, if_false, and_true, true_and, and_false, false_and, or_true, true_or, or_false, false_or, not_true_eq_false, not_false_eq_true, ne_eq, ite_true, ite_false]; done) | (simp only [mOnF, if_true, if_false, and_true, true_and, and_false, false_and, or_true, true_or, or_false, false_or, not_true_eq_false, not_false_eq_true, ne_eq, ite_true, ite_false]; rfl)
  exact L4 (nj + 1) 0 (by omega) (by omega) (by omega) ls (by rw [e_6]; rw [e_7]; exact lv_sub hl [0, 1, 2, 3] rfl)
theorem cd_X5_jobsOn : yX5_jobsOn.cls = RX5 ∧ yX5_jobsOn.cls ≠ "java/lang/invoke/MethodHandle" ∧ yX5_jobsOn.cls ≠ "java/lang/invoke/VarHandle" ∧ (parseMethodDescriptor yX5_jobsOn.desc).map (fun d => d.parameters.length) = some 1 := by decide +kernel
-- X5_emptiest
theorem lk_X5_emptiest_1 : Cond.fieldLink RX5 7 "EvenLoadsModel" "s" "[I" ∈ wsX5_emptiest := List.mem_of_getElem? (i := 1) (by decide +kernel)
theorem in_X5_emptiest_X5 : ∀ w ∈ wsX50, w ∈ wsX5_emptiest := by decide +kernel
set_option maxHeartbeats 4000000 in
set_option maxRecDepth 100000 in
theorem c_X5_emptiest (l : Launch) (G : va_G) (cI cQ : ClassId) (q : Nat → Nat) (z : MS) (nv nj : Nat) (hm : MI (kMs z) nv nj) : Met l yX5_emptiest wsX5_emptiest ({ frames := 3, cells := 0, slots := 0, locals := 64 } : Room) (pPc G cI cQ [.ref (q 0)] ((mdT cI q z))) (vp_Si (fun r => r = (mEmpty (kMs z) nv nj))) 0 0 (fun _ => False) := by
  refine pm_of (cc := cX5_emptiest) (maxL := 3) (ret := (some .int)) (own := RX5) (by decide) rfl rfl (Nat.le_of_ble_eq_true rfl) rfl ?_
  intro p e s m below meth cd ls hx hb hr hts hown hlocks hml hK hP hl
  refine lv_bipush (v := (-9)) hx hb dX5_emptiest_0 (by decide) ?_
  refine lv_istore_n (lv' := [(1, .int (-9)), (0, .ref (q 0))]) hx hb dX5_emptiest_2 rfl hl (by decide) rfl (fun ls hl => ?_)
  refine lv_iconst (v := 0) hx hb dX5_emptiest_3 (by decide) ?_
  refine lv_istore_n (lv' := [(2, .int 0), (1, .int (-9)), (0, .ref (q 0))]) hx hb dX5_emptiest_4 rfl hl (by decide) rfl (fun ls hl => ?_)
  have L5 : ∀ (n5 i5 : Nat), 0 ≤ i5 → i5 ≤ nv → nv + 1 ≤ i5 + n5 → ∀ (ls : Array Slot), lv_has ls 3 [(2, .int (nI i5)), (1, .int (mEmF (kMs z) nv nj i5)), (0, .ref (q 0))] → W p l e ({ frames := 3, cells := 0, slots := 0, locals := 64 } : Room) s m ([.ref (q 0)] : List Value).toArray below meth cd s.heap [] 0 0 (MQ below (vp_Si (fun r => r = (mEmpty (kMs z) nv nj))) ([.ref (q 0)] : List Value).toArray s 0 0 (fun _ => False)) (F0 m 5 ls []) := by
    intro n5
    induction n5 with
    | zero => intro i5 h0 h1 h2; exact absurd h2 (by omega)
    | succ n5 ih5 =>
      intro i5 hlo5 hle5 hin5 ls hl
      have hnv := hm.2.1
      refine lv_iload_n hx hb dX5_emptiest_5 rfl (lv_at hl 0 rfl) ?_
      refine lv_aload_n hx hb dX5_emptiest_6 rfl (lv_at hl 2 rfl) ?_
      refine va_get (D := G) (ci := 5) (v := .ref (q 1)) (C := RX5) (T := TX5) (N := 15) hx hb hts in_X5_emptiest_X5 hown hK.1 hP 0 rfl rfl 0 (by decide) (hts _ lk_X5_emptiest_1) (fun _ h9 => h9) rfl dX5_emptiest_7 ?_
      refine lv_iconst (v := 0) hx hb dX5_emptiest_10 (by decide) ?_
      refine iald_n hx hb hK hP 1 rfl 0 rfl (by decide) (by decide) dX5_emptiest_11 ?_
      refine lv_cvt (y := (nI nv)) (hm).1 ?_
      refine lv_icmp_ge (tgt := 54) hx hb dX5_emptiest_12 (by decide) (fun c_1 => ?_) (fun c_1 => ?_)
      · skip
        have q_2 : nv = i5 := by have h9 := (nI_leI (a := nv) (b := i5) (by omega) (by omega)).mp c_1; omega
        subst q_2
        refine lv_iload_n hx hb dX5_emptiest_54 rfl (lv_at hl 1 rfl) ?_
        exact p_ret hx hb hr hlocks rfl (by first | rfl | (simp only [mEmF, mEmpty, if_true, if_false, and_true, true_and, and_false, false_and, or_true, true_or, or_false, false_or, not_true_eq_false, not_false_eq_true, ne_eq, ite_true, ite_false]; done) | (simp only [mEmF, mEmpty, if_true, if_false, and_true, true_and, and_false, false_and, or_true, true_or, or_false, false_or, not_true_eq_false, not_false_eq_true, ne_eq, ite_true, ite_false]; rfl)) dX5_emptiest_55
      · skip
        have hlt5 : i5 < nv := Nat.lt_of_not_le (fun q => c_1 ((nI_leI (a := nv) (b := i5) (by omega) (by omega)).mpr q))
        refine lv_aload_n hx hb dX5_emptiest_15 rfl (lv_at hl 2 rfl) ?_
        refine lv_iload_n hx hb dX5_emptiest_16 rfl (lv_at hl 0 rfl) ?_
        refine pcV (rest := []) ⟨hx, hb, hml, hown, hts⟩ (c_X5_isOpen l G cI cQ q z nv nj hm (nI i5)) (cwV 1 hts gX5_emptiest_X5_isOpen rfl rfl rfl cd_X5_isOpen ⟨Nat.le_of_ble_eq_true rfl, Nat.le_of_ble_eq_true rfl⟩) hK hP [0, 1, 2, 3, 4, 5, 6] rfl 0 rfl rfl rfl rfl hl.1 rfl (Nat.le_of_ble_eq_true rfl) dX5_emptiest_17 ⟨Nat.zero_le _, Nat.zero_le _⟩ ?_
        refine lv_if_eq (tgt := 46) hx hb dX5_emptiest_20 (by decide) (fun c_3 => ?_) (fun c_3 => ?_)
        · skip
          have c_3 := bI_0.mp c_3
          refine lv_iload_n hx hb dX5_emptiest_46 rfl (lv_at hl 1 rfl) ?_
          refine lv_istore_n (lv' := [(1, .int (mEmF (kMs z) nv nj i5)), (2, .int (nI i5)), (0, .ref (q 0))]) hx hb dX5_emptiest_47 rfl hl (by decide) rfl (fun ls hl => ?_)
          refine lv_iinc (v := (nI (i5 + 1))) (lv' := [(2, .int (nI (i5 + 1))), (1, .int (mEmF (kMs z) nv nj i5)), (0, .ref (q 0))]) hx hb dX5_emptiest_48 hl (k := 1) rfl (nI_1 i5) (by decide) rfl (fun ls hl => ?_)
          refine lv_goto (tgt := 5) hx hb dX5_emptiest_51 (by decide) ?_
          have e_4 : (mEmF (kMs z) nv nj (i5 + 1)) = (mEmF (kMs z) nv nj i5) := by first | rfl | (simp only [mEmF, mEmpty, eq_false c_3, if_true, if_false, and_true, true_and, and_false, false_and, or_true, true_or, or_false, false_or, not_true_eq_false, not_false_eq_true, ne_eq, ite_true, ite_false]; done) | (simp only [mEmF, mEmpty, eq_false c_3, if_true, if_false, and_true, true_and, and_false, false_and, or_true, true_or, or_false, false_or, not_true_eq_false, not_false_eq_true, ne_eq, ite_true, ite_false]; rfl)
          exact ih5 (i5 + 1) (by omega) (by omega) (by omega) ls (by rw [e_4]; exact lv_sub hl [0, 1, 2] rfl)
        · skip
          have c_3 := bI_n0.mp c_3
          refine lv_iload_n hx hb dX5_emptiest_23 rfl (lv_at hl 1 rfl) ?_
          refine lv_bipush (v := (-9)) hx hb dX5_emptiest_24 (by decide) ?_
          refine lv_icmp_eq (tgt := 42) hx hb dX5_emptiest_26 (by decide) (fun c_5 => ?_) (fun c_5 => ?_)
          · skip
            refine lv_iload_n hx hb dX5_emptiest_42 rfl (lv_at hl 0 rfl) ?_
            refine lv_goto (tgt := 47) hx hb dX5_emptiest_43 (by decide) ?_
            refine lv_istore_n (lv' := [(1, .int (nI i5)), (2, .int (nI i5)), (0, .ref (q 0))]) hx hb dX5_emptiest_47 rfl hl (by decide) rfl (fun ls hl => ?_)
            refine lv_iinc (v := (nI (i5 + 1))) (lv' := [(2, .int (nI (i5 + 1))), (1, .int (nI i5)), (0, .ref (q 0))]) hx hb dX5_emptiest_48 hl (k := 1) rfl (nI_1 i5) (by decide) rfl (fun ls hl => ?_)
            refine lv_goto (tgt := 5) hx hb dX5_emptiest_51 (by decide) ?_
            have e_6 : (mEmF (kMs z) nv nj (i5 + 1)) = (nI i5) := by first | rfl | (simp only [mEmF, mEmpty, eq_true c_3, eq_true c_5, eq_true (Eq.symm c_5), if_true, if_false, and_true, true_and, and_false, false_and, or_true, true_or, or_false, false_or, not_true_eq_false, not_false_eq_true, ne_eq, ite_true, ite_false]; done) | (simp only [mEmF, mEmpty, eq_true c_3, eq_true c_5, eq_true (Eq.symm c_5), if_true, if_false, and_true, true_and, and_false, false_and, or_true, true_or, or_false, false_or, not_true_eq_false, not_false_eq_true, ne_eq, ite_true, ite_false]; rfl)
            exact ih5 (i5 + 1) (by omega) (by omega) (by omega) ls (by rw [e_6]; exact lv_sub hl [0, 1, 2] rfl)
          · skip
            refine lv_aload_n hx hb dX5_emptiest_29 rfl (lv_at hl 2 rfl) ?_
            refine lv_iload_n hx hb dX5_emptiest_30 rfl (lv_at hl 0 rfl) ?_
            refine pcV (rest := []) ⟨hx, hb, hml, hown, hts⟩ (c_X5_load l G cI cQ q z nv nj hm (nI i5)) (cwV 1 hts gX5_emptiest_X5_load rfl rfl rfl cd_X5_load ⟨Nat.le_of_ble_eq_true rfl, Nat.le_of_ble_eq_true rfl⟩) hK hP [0, 1, 2, 3, 4, 5, 6] rfl 0 rfl rfl rfl rfl hl.1 rfl (Nat.le_of_ble_eq_true rfl) dX5_emptiest_31 ⟨Nat.zero_le _, Nat.zero_le _⟩ ?_
            refine lv_aload_n hx hb dX5_emptiest_34 rfl (lv_at hl 2 rfl) ?_
            refine lv_iload_n hx hb dX5_emptiest_35 rfl (lv_at hl 1 rfl) ?_
            refine pcV (rest := [.int (mLoad (kMs z) nj (nI i5))]) ⟨hx, hb, hml, hown, hts⟩ (c_X5_load l G cI cQ q z nv nj hm (mEmF (kMs z) nv nj i5)) (cwV 1 hts gX5_emptiest_X5_load rfl rfl rfl cd_X5_load ⟨Nat.le_of_ble_eq_true rfl, Nat.le_of_ble_eq_true rfl⟩) hK hP [0, 1, 2, 3, 4, 5, 6] rfl 0 rfl rfl rfl rfl hl.1 rfl (Nat.le_of_ble_eq_true rfl) dX5_emptiest_36 ⟨Nat.zero_le _, Nat.zero_le _⟩ ?_
            refine lv_icmp_ge (tgt := 46) hx hb dX5_emptiest_39 (by decide) (fun c_7 => ?_) (fun c_7 => ?_)
            · skip
              refine lv_iload_n hx hb dX5_emptiest_46 rfl (lv_at hl 1 rfl) ?_
              refine lv_istore_n (lv' := [(1, .int (mEmF (kMs z) nv nj i5)), (2, .int (nI i5)), (0, .ref (q 0))]) hx hb dX5_emptiest_47 rfl hl (by decide) rfl (fun ls hl => ?_)
              refine lv_iinc (v := (nI (i5 + 1))) (lv' := [(2, .int (nI (i5 + 1))), (1, .int (mEmF (kMs z) nv nj i5)), (0, .ref (q 0))]) hx hb dX5_emptiest_48 hl (k := 1) rfl (nI_1 i5) (by decide) rfl (fun ls hl => ?_)
              refine lv_goto (tgt := 5) hx hb dX5_emptiest_51 (by decide) ?_
              have e_8 : (mEmF (kMs z) nv nj (i5 + 1)) = (mEmF (kMs z) nv nj i5) := by first | rfl | (simp only [mEmF, mEmpty, eq_true c_3, eq_false c_5, eq_false (Ne.symm c_5), eq_true c_7, eq_false (Int32.not_lt.mpr c_7), if_true, if_false, and_true, true_and, and_false, false_and, or_true, true_or, or_false, false_or, not_true_eq_false, not_false_eq_true, ne_eq, ite_true, ite_false]; done) | (simp only [mEmF, mEmpty, eq_true c_3, eq_false c_5, eq_false (Ne.symm c_5), eq_true c_7, eq_false (Int32.not_lt.mpr c_7), if_true, if_false, and_true, true_and, and_false, false_and, or_true, true_or, or_false, false_or, not_true_eq_false, not_false_eq_true, ne_eq, ite_true, ite_false]; rfl)
              exact ih5 (i5 + 1) (by omega) (by omega) (by omega) ls (by rw [e_8]; exact lv_sub hl [0, 1, 2] rfl)
            · skip
              refine lv_iload_n hx hb dX5_emptiest_42 rfl (lv_at hl 0 rfl) ?_
              refine lv_goto (tgt := 47) hx hb dX5_emptiest_43 (by decide) ?_
              refine lv_istore_n (lv' := [(1, .int (nI i5)), (2, .int (nI i5)), (0, .ref (q 0))]) hx hb dX5_emptiest_47 rfl hl (by decide) rfl (fun ls hl => ?_)
              refine lv_iinc (v := (nI (i5 + 1))) (lv' := [(2, .int (nI (i5 + 1))), (1, .int (nI i5)), (0, .ref (q 0))]) hx hb dX5_emptiest_48 hl (k := 1) rfl (nI_1 i5) (by decide) rfl (fun ls hl => ?_)
              refine lv_goto (tgt := 5) hx hb dX5_emptiest_51 (by decide) ?_
              have e_9 : (mEmF (kMs z) nv nj (i5 + 1)) = (nI i5) := by first | rfl | (simp only [mEmF, mEmpty, eq_true c_3, eq_false c_5, eq_false (Ne.symm c_5), eq_false c_7, eq_true (Int32.not_le.mp c_7), if_true, if_false, and_true, true_and, and_false, false_and, or_true, true_or, or_false, false_or, not_true_eq_false, not_false_eq_true, ne_eq, ite_true, ite_false]; done) | (simp only [mEmF, mEmpty, eq_true c_3, eq_false c_5, eq_false (Ne.symm c_5), eq_false c_7, eq_true (Int32.not_le.mp c_7), if_true, if_false, and_true, true_and, and_false, false_and, or_true, true_or, or_false, false_or, not_true_eq_false, not_false_eq_true, ne_eq, ite_true, ite_false]; rfl)
              exact ih5 (i5 + 1) (by omega) (by omega) (by omega) ls (by rw [e_9]; exact lv_sub hl [0, 1, 2] rfl)
  have e_10 : (nI 0) = 0 := by first | rfl | decide
  have e_11 : (mEmF (kMs z) nv nj 0) = (-9) := by first | rfl | (simp only [mEmF, mEmpty, if_true, if_false, and_true, true_and, and_false, false_and, or_true, true_or, or_false, false_or, not_true_eq_false, not_false_eq_true, ne_eq, ite_true, ite_false]; done) | (simp only [mEmF, mEmpty, if_true, if_false, and_true, true_and, and_false, false_and, or_true, true_or, or_false, false_or, not_true_eq_false, not_false_eq_true, ne_eq, ite_true, ite_false]; rfl)
  exact L5 (nv + 1) 0 (by omega) (by omega) (by omega) ls (by rw [e_10]; rw [e_11]; exact lv_sub hl [0, 1, 2] rfl)
theorem cd_X5_emptiest : yX5_emptiest.cls = RX5 ∧ yX5_emptiest.cls ≠ "java/lang/invoke/MethodHandle" ∧ yX5_emptiest.cls ≠ "java/lang/invoke/VarHandle" ∧ (parseMethodDescriptor yX5_emptiest.desc).map (fun d => d.parameters.length) = some 0 := by decide +kernel
-- X5_full
theorem lk_X5_full_1 : Cond.fieldLink RX5 7 "EvenLoadsModel" "s" "[I" ∈ wsX5_full := List.mem_of_getElem? (i := 1) (by decide +kernel)
theorem in_X5_full_X5 : ∀ w ∈ wsX50, w ∈ wsX5_full := by decide +kernel
set_option maxHeartbeats 4000000 in
set_option maxRecDepth 100000 in
theorem c_X5_full (l : Launch) (G : va_G) (cI cQ : ClassId) (q : Nat → Nat) (z : MS) (nv nj : Nat) (hm : MI (kMs z) nv nj) : Met l yX5_full wsX5_full ({ frames := 3, cells := 0, slots := 0, locals := 64 } : Room) (pPc G cI cQ [.ref (q 0)] ((mdT cI q z))) (vp_Si (fun r => r = (mFull (kMs z) nv nj))) 0 0 (fun _ => False) := by
  refine pm_of (cc := cX5_full) (maxL := 3) (ret := (some .int)) (own := RX5) (by decide) rfl rfl (Nat.le_of_ble_eq_true rfl) rfl ?_
  intro p e s m below meth cd ls hx hb hr hts hown hlocks hml hK hP hl
  refine lv_bipush (v := (-9)) hx hb dX5_full_0 (by decide) ?_
  refine lv_istore_n (lv' := [(1, .int (-9)), (0, .ref (q 0))]) hx hb dX5_full_2 rfl hl (by decide) rfl (fun ls hl => ?_)
  refine lv_aload_n hx hb dX5_full_3 rfl (lv_at hl 1 rfl) ?_
  refine va_get (D := G) (ci := 5) (v := .ref (q 1)) (C := RX5) (T := TX5) (N := 15) hx hb hts in_X5_full_X5 hown hK.1 hP 0 rfl rfl 0 (by decide) (hts _ lk_X5_full_1) (fun _ h9 => h9) rfl dX5_full_4 ?_
  refine lv_iconst (v := 0) hx hb dX5_full_7 (by decide) ?_
  refine iald_n hx hb hK hP 1 rfl 0 rfl (by decide) (by decide) dX5_full_8 ?_
  refine lv_cvt (y := (nI nv)) (hm).1 ?_
  refine lv_iconst (v := 1) hx hb dX5_full_9 (by decide) ?_
  refine lv_isub hx hb dX5_full_10 ?_
  refine lv_istore_n (lv' := [(2, .int ((nI nv) - 1)), (1, .int (-9)), (0, .ref (q 0))]) hx hb dX5_full_11 rfl hl (by decide) rfl (fun ls hl => ?_)
  have L12 : ∀ (n12 i12 : Nat), 0 ≤ i12 → i12 ≤ nv → nv + 1 ≤ i12 + n12 → ∀ (ls : Array Slot), lv_has ls 3 [(2, .int ((nI (nv - i12)) - 1)), (1, .int (mFuF (kMs z) nv nj i12)), (0, .ref (q 0))] → W p l e ({ frames := 3, cells := 0, slots := 0, locals := 64 } : Room) s m ([.ref (q 0)] : List Value).toArray below meth cd s.heap [] 0 0 (MQ below (vp_Si (fun r => r = (mFull (kMs z) nv nj))) ([.ref (q 0)] : List Value).toArray s 0 0 (fun _ => False)) (F0 m 12 ls []) := by
    intro n12
    induction n12 with
    | zero => intro i12 h0 h1 h2; exact absurd h2 (by omega)
    | succ n12 ih12 =>
      intro i12 hlo12 hle12 hin12 ls hl
      have hnv := hm.2.1
      refine lv_iload_n hx hb dX5_full_12 rfl (lv_at hl 0 rfl) ?_
      refine lv_if_lt (tgt := 55) hx hb dX5_full_13 (by decide) (fun c_1 => ?_) (fun c_1 => ?_)
      · skip
        have q_2 : nv = i12 := ((down0 hle12 hnv).mp c_1).symm
        subst q_2
        refine lv_iload_n hx hb dX5_full_55 rfl (lv_at hl 1 rfl) ?_
        exact p_ret hx hb hr hlocks rfl (by first | rfl | (simp only [mFuF, mFull, if_true, if_false, and_true, true_and, and_false, false_and, or_true, true_or, or_false, false_or, not_true_eq_false, not_false_eq_true, ne_eq, ite_true, ite_false]; done) | (simp only [mFuF, mFull, if_true, if_false, and_true, true_and, and_false, false_and, or_true, true_or, or_false, false_or, not_true_eq_false, not_false_eq_true, ne_eq, ite_true, ite_false]; rfl)) dX5_full_56
      · skip
        have hlt12 : i12 < nv := by rcases Nat.lt_or_ge i12 nv with q | q; exact q; exact absurd ((down0 hle12 hnv).mpr (by omega)) c_1
        rw [down1 hlt12] at hl
        refine lv_aload_n hx hb dX5_full_16 rfl (lv_at hl 2 rfl) ?_
        refine lv_iload_n hx hb dX5_full_17 rfl (lv_at hl 0 rfl) ?_
        refine pcV (rest := []) ⟨hx, hb, hml, hown, hts⟩ (c_X5_isOpen l G cI cQ q z nv nj hm (nI (nv - 1 - i12))) (cwV 1 hts gX5_full_X5_isOpen rfl rfl rfl cd_X5_isOpen ⟨Nat.le_of_ble_eq_true rfl, Nat.le_of_ble_eq_true rfl⟩) hK hP [0, 1, 2, 3, 4, 5, 6] rfl 0 rfl rfl rfl rfl hl.1 rfl (Nat.le_of_ble_eq_true rfl) dX5_full_18 ⟨Nat.zero_le _, Nat.zero_le _⟩ ?_
        refine lv_if_eq (tgt := 47) hx hb dX5_full_21 (by decide) (fun c_3 => ?_) (fun c_3 => ?_)
        · skip
          have c_3 := bI_0.mp c_3
          refine lv_iload_n hx hb dX5_full_47 rfl (lv_at hl 1 rfl) ?_
          refine lv_istore_n (lv' := [(1, .int (mFuF (kMs z) nv nj i12)), (2, .int (nI (nv - 1 - i12))), (0, .ref (q 0))]) hx hb dX5_full_48 rfl hl (by decide) rfl (fun ls hl => ?_)
          refine lv_iinc (v := ((nI (nv - 1 - i12)) + (-1))) (lv' := [(2, .int ((nI (nv - 1 - i12)) + (-1))), (1, .int (mFuF (kMs z) nv nj i12)), (0, .ref (q 0))]) hx hb dX5_full_49 hl (k := 1) rfl rfl (by decide) rfl (fun ls hl => ?_)
          refine lv_goto (tgt := 12) hx hb dX5_full_52 (by decide) ?_
          have e_4 : ((nI (nv - (i12 + 1))) - 1) = ((nI (nv - 1 - i12)) + (-1)) := down2 hlt12
          have e_5 : (mFuF (kMs z) nv nj (i12 + 1)) = (mFuF (kMs z) nv nj i12) := by first | rfl | (simp only [mFuF, mFull, eq_false c_3, if_true, if_false, and_true, true_and, and_false, false_and, or_true, true_or, or_false, false_or, not_true_eq_false, not_false_eq_true, ne_eq, ite_true, ite_false]; done) | (simp only [mFuF, mFull, eq_false c_3, if_true, if_false, and_true, true_and, and_false, false_and, or_true, true_or, or_false, false_or, not_true_eq_false, not_false_eq_true, ne_eq, ite_true, ite_false]; rfl)
          exact ih12 (i12 + 1) (by omega) (by omega) (by omega) ls (by rw [e_4]; rw [e_5]; exact lv_sub hl [0, 1, 2] rfl)
        · skip
          have c_3 := bI_n0.mp c_3
          refine lv_iload_n hx hb dX5_full_24 rfl (lv_at hl 1 rfl) ?_
          refine lv_bipush (v := (-9)) hx hb dX5_full_25 (by decide) ?_
          refine lv_icmp_eq (tgt := 43) hx hb dX5_full_27 (by decide) (fun c_6 => ?_) (fun c_6 => ?_)
          · skip
            refine lv_iload_n hx hb dX5_full_43 rfl (lv_at hl 0 rfl) ?_
            refine lv_goto (tgt := 48) hx hb dX5_full_44 (by decide) ?_
            refine lv_istore_n (lv' := [(1, .int (nI (nv - 1 - i12))), (2, .int (nI (nv - 1 - i12))), (0, .ref (q 0))]) hx hb dX5_full_48 rfl hl (by decide) rfl (fun ls hl => ?_)
            refine lv_iinc (v := ((nI (nv - 1 - i12)) + (-1))) (lv' := [(2, .int ((nI (nv - 1 - i12)) + (-1))), (1, .int (nI (nv - 1 - i12))), (0, .ref (q 0))]) hx hb dX5_full_49 hl (k := 1) rfl rfl (by decide) rfl (fun ls hl => ?_)
            refine lv_goto (tgt := 12) hx hb dX5_full_52 (by decide) ?_
            have e_7 : ((nI (nv - (i12 + 1))) - 1) = ((nI (nv - 1 - i12)) + (-1)) := down2 hlt12
            have e_8 : (mFuF (kMs z) nv nj (i12 + 1)) = (nI (nv - 1 - i12)) := by first | rfl | (simp only [mFuF, mFull, eq_true c_3, eq_true c_6, eq_true (Eq.symm c_6), if_true, if_false, and_true, true_and, and_false, false_and, or_true, true_or, or_false, false_or, not_true_eq_false, not_false_eq_true, ne_eq, ite_true, ite_false]; done) | (simp only [mFuF, mFull, eq_true c_3, eq_true c_6, eq_true (Eq.symm c_6), if_true, if_false, and_true, true_and, and_false, false_and, or_true, true_or, or_false, false_or, not_true_eq_false, not_false_eq_true, ne_eq, ite_true, ite_false]; rfl)
            exact ih12 (i12 + 1) (by omega) (by omega) (by omega) ls (by rw [e_7]; rw [e_8]; exact lv_sub hl [0, 1, 2] rfl)
          · skip
            refine lv_aload_n hx hb dX5_full_30 rfl (lv_at hl 2 rfl) ?_
            refine lv_iload_n hx hb dX5_full_31 rfl (lv_at hl 0 rfl) ?_
            refine pcV (rest := []) ⟨hx, hb, hml, hown, hts⟩ (c_X5_load l G cI cQ q z nv nj hm (nI (nv - 1 - i12))) (cwV 1 hts gX5_full_X5_load rfl rfl rfl cd_X5_load ⟨Nat.le_of_ble_eq_true rfl, Nat.le_of_ble_eq_true rfl⟩) hK hP [0, 1, 2, 3, 4, 5, 6] rfl 0 rfl rfl rfl rfl hl.1 rfl (Nat.le_of_ble_eq_true rfl) dX5_full_32 ⟨Nat.zero_le _, Nat.zero_le _⟩ ?_
            refine lv_aload_n hx hb dX5_full_35 rfl (lv_at hl 2 rfl) ?_
            refine lv_iload_n hx hb dX5_full_36 rfl (lv_at hl 1 rfl) ?_
            refine pcV (rest := [.int (mLoad (kMs z) nj (nI (nv - 1 - i12)))]) ⟨hx, hb, hml, hown, hts⟩ (c_X5_load l G cI cQ q z nv nj hm (mFuF (kMs z) nv nj i12)) (cwV 1 hts gX5_full_X5_load rfl rfl rfl cd_X5_load ⟨Nat.le_of_ble_eq_true rfl, Nat.le_of_ble_eq_true rfl⟩) hK hP [0, 1, 2, 3, 4, 5, 6] rfl 0 rfl rfl rfl rfl hl.1 rfl (Nat.le_of_ble_eq_true rfl) dX5_full_37 ⟨Nat.zero_le _, Nat.zero_le _⟩ ?_
            refine lv_icmp_lt (tgt := 47) hx hb dX5_full_40 (by decide) (fun c_9 => ?_) (fun c_9 => ?_)
            · skip
              refine lv_iload_n hx hb dX5_full_47 rfl (lv_at hl 1 rfl) ?_
              refine lv_istore_n (lv' := [(1, .int (mFuF (kMs z) nv nj i12)), (2, .int (nI (nv - 1 - i12))), (0, .ref (q 0))]) hx hb dX5_full_48 rfl hl (by decide) rfl (fun ls hl => ?_)
              refine lv_iinc (v := ((nI (nv - 1 - i12)) + (-1))) (lv' := [(2, .int ((nI (nv - 1 - i12)) + (-1))), (1, .int (mFuF (kMs z) nv nj i12)), (0, .ref (q 0))]) hx hb dX5_full_49 hl (k := 1) rfl rfl (by decide) rfl (fun ls hl => ?_)
              refine lv_goto (tgt := 12) hx hb dX5_full_52 (by decide) ?_
              have e_10 : ((nI (nv - (i12 + 1))) - 1) = ((nI (nv - 1 - i12)) + (-1)) := down2 hlt12
              have e_11 : (mFuF (kMs z) nv nj (i12 + 1)) = (mFuF (kMs z) nv nj i12) := by first | rfl | (simp only [mFuF, mFull, eq_true c_3, eq_false c_6, eq_false (Ne.symm c_6), eq_true c_9, eq_false (Int32.not_le.mpr c_9), if_true, if_false, and_true, true_and, and_false, false_and, or_true, true_or, or_false, false_or, not_true_eq_false, not_false_eq_true, ne_eq, ite_true, ite_false]; done) | (simp only [mFuF, mFull, eq_true c_3, eq_false c_6, eq_false (Ne.symm c_6), eq_true c_9, eq_false (Int32.not_le.mpr c_9), if_true, if_false, and_true, true_and, and_false, false_and, or_true, true_or, or_false, false_or, not_true_eq_false, not_false_eq_true, ne_eq, ite_true, ite_false]; rfl)
              exact ih12 (i12 + 1) (by omega) (by omega) (by omega) ls (by rw [e_10]; rw [e_11]; exact lv_sub hl [0, 1, 2] rfl)
            · skip
              refine lv_iload_n hx hb dX5_full_43 rfl (lv_at hl 0 rfl) ?_
              refine lv_goto (tgt := 48) hx hb dX5_full_44 (by decide) ?_
              refine lv_istore_n (lv' := [(1, .int (nI (nv - 1 - i12))), (2, .int (nI (nv - 1 - i12))), (0, .ref (q 0))]) hx hb dX5_full_48 rfl hl (by decide) rfl (fun ls hl => ?_)
              refine lv_iinc (v := ((nI (nv - 1 - i12)) + (-1))) (lv' := [(2, .int ((nI (nv - 1 - i12)) + (-1))), (1, .int (nI (nv - 1 - i12))), (0, .ref (q 0))]) hx hb dX5_full_49 hl (k := 1) rfl rfl (by decide) rfl (fun ls hl => ?_)
              refine lv_goto (tgt := 12) hx hb dX5_full_52 (by decide) ?_
              have e_12 : ((nI (nv - (i12 + 1))) - 1) = ((nI (nv - 1 - i12)) + (-1)) := down2 hlt12
              have e_13 : (mFuF (kMs z) nv nj (i12 + 1)) = (nI (nv - 1 - i12)) := by first | rfl | (simp only [mFuF, mFull, eq_true c_3, eq_false c_6, eq_false (Ne.symm c_6), eq_false c_9, eq_true (Int32.not_lt.mp c_9), if_true, if_false, and_true, true_and, and_false, false_and, or_true, true_or, or_false, false_or, not_true_eq_false, not_false_eq_true, ne_eq, ite_true, ite_false]; done) | (simp only [mFuF, mFull, eq_true c_3, eq_false c_6, eq_false (Ne.symm c_6), eq_false c_9, eq_true (Int32.not_lt.mp c_9), if_true, if_false, and_true, true_and, and_false, false_and, or_true, true_or, or_false, false_or, not_true_eq_false, not_false_eq_true, ne_eq, ite_true, ite_false]; rfl)
              exact ih12 (i12 + 1) (by omega) (by omega) (by omega) ls (by rw [e_12]; rw [e_13]; exact lv_sub hl [0, 1, 2] rfl)
  have e_14 : ((nI (nv - 0)) - 1) = ((nI nv) - 1) := by first | rfl | decide
  have e_15 : (mFuF (kMs z) nv nj 0) = (-9) := by first | rfl | (simp only [mFuF, mFull, if_true, if_false, and_true, true_and, and_false, false_and, or_true, true_or, or_false, false_or, not_true_eq_false, not_false_eq_true, ne_eq, ite_true, ite_false]; done) | (simp only [mFuF, mFull, if_true, if_false, and_true, true_and, and_false, false_and, or_true, true_or, or_false, false_or, not_true_eq_false, not_false_eq_true, ne_eq, ite_true, ite_false]; rfl)
  exact L12 (nv + 1) 0 (by omega) (by omega) (by omega) ls (by rw [e_14]; rw [e_15]; exact lv_sub hl [0, 1, 2] rfl)
theorem cd_X5_full : yX5_full.cls = RX5 ∧ yX5_full.cls ≠ "java/lang/invoke/MethodHandle" ∧ yX5_full.cls ≠ "java/lang/invoke/VarHandle" ∧ (parseMethodDescriptor yX5_full.desc).map (fun d => d.parameters.length) = some 0 := by decide +kernel
-- X5_leaver
theorem lk_X5_leaver_1 : Cond.fieldLink RX5 7 "EvenLoadsModel" "s" "[I" ∈ wsX5_leaver := List.mem_of_getElem? (i := 1) (by decide +kernel)
theorem in_X5_leaver_X5 : ∀ w ∈ wsX50, w ∈ wsX5_leaver := by decide +kernel
set_option maxHeartbeats 4000000 in
set_option maxRecDepth 100000 in
theorem c_X5_leaver (l : Launch) (G : va_G) (cI cQ : ClassId) (q : Nat → Nat) (z : MS) (nv nj : Nat) (hm : MI (kMs z) nv nj) (p0 : Int32) (p1 : Int32) : Met l yX5_leaver wsX5_leaver ({ frames := 1, cells := 0, slots := 0, locals := 22 } : Room) (pPc G cI cQ [.ref (q 0), .int p0, .int p1] ((mdT cI q z))) (vp_Si (fun r => r = (mLeaver (kMs z) nj p0 p1))) 0 0 (fun _ => False) := by
  refine pm_of (cc := cX5_leaver) (maxL := 6) (ret := (some .int)) (own := RX5) (by decide) rfl rfl (Nat.le_of_ble_eq_true rfl) rfl ?_
  intro p e s m below meth cd ls hx hb hr hts hown hlocks hml hK hP hl
  refine lv_bipush (v := (-9)) hx hb dX5_leaver_0 (by decide) ?_
  refine lv_istore_n (lv' := [(3, .int (-9)), (0, .ref (q 0)), (1, .int p0), (2, .int p1)]) hx hb dX5_leaver_2 rfl hl (by decide) rfl (fun ls hl => ?_)
  refine lv_iconst (v := 0) hx hb dX5_leaver_3 (by decide) ?_
  refine lv_istore (lv' := [(4, .int 0), (3, .int (-9)), (0, .ref (q 0)), (1, .int p0), (2, .int p1)]) hx hb dX5_leaver_4 hl (by decide) rfl (fun ls hl => ?_)
  have L6 : ∀ (n6 i6 : Nat), 0 ≤ i6 → i6 ≤ nj → nj + 1 ≤ i6 + n6 → ∀ (ls : Array Slot), lv_has ls 6 [(4, .int (nI i6)), (3, .int (mlF (kMs z) p0 p1 i6)), (0, .ref (q 0)), (1, .int p0), (2, .int p1)] → W p l e ({ frames := 1, cells := 0, slots := 0, locals := 22 } : Room) s m ([.ref (q 0), .int p0, .int p1] : List Value).toArray below meth cd s.heap [] 0 0 (MQ below (vp_Si (fun r => r = (mLeaver (kMs z) nj p0 p1))) ([.ref (q 0), .int p0, .int p1] : List Value).toArray s 0 0 (fun _ => False)) (F0 m 6 ls []) := by
    intro n6
    induction n6 with
    | zero => intro i6 h0 h1 h2; exact absurd h2 (by omega)
    | succ n6 ih6 =>
      intro i6 hlo6 hle6 hin6 ls hl
      have hnj := hm.2.2.2
      refine lv_iload hx hb dX5_leaver_6 (lv_at hl 0 rfl) ?_
      refine lv_aload_n hx hb dX5_leaver_8 rfl (lv_at hl 2 rfl) ?_
      refine va_get (D := G) (ci := 5) (v := .ref (q 1)) (C := RX5) (T := TX5) (N := 15) hx hb hts in_X5_leaver_X5 hown hK.1 hP 0 rfl rfl 0 (by decide) (hts _ lk_X5_leaver_1) (fun _ h9 => h9) rfl dX5_leaver_9 ?_
      refine lv_iconst (v := 2) hx hb dX5_leaver_12 (by decide) ?_
      refine iald_n hx hb hK hP 1 rfl 2 rfl (by decide) (by decide) dX5_leaver_13 ?_
      refine lv_cvt (y := (nI nj)) (hm).2.2.1 ?_
      refine lv_icmp_ge (tgt := 116) hx hb dX5_leaver_14 (by decide) (fun c_1 => ?_) (fun c_1 => ?_)
      · skip
        have q_2 : nj = i6 := by have h9 := (nI_leI (a := nj) (b := i6) (by omega) (by omega)).mp c_1; omega
        subst q_2
        refine lv_iload_n hx hb dX5_leaver_116 rfl (lv_at hl 1 rfl) ?_
        exact p_ret hx hb hr hlocks rfl (by first | rfl | (simp only [mlF, mLeaver, if_true, if_false, and_true, true_and, and_false, false_and, or_true, true_or, or_false, false_or, not_true_eq_false, not_false_eq_true, ne_eq, ite_true, ite_false]; done) | (simp only [mlF, mLeaver, if_true, if_false, and_true, true_and, and_false, false_and, or_true, true_or, or_false, false_or, not_true_eq_false, not_false_eq_true, ne_eq, ite_true, ite_false]; rfl)) dX5_leaver_117
      · skip
        have hlt6 : i6 < nj := Nat.lt_of_not_le (fun q => c_1 ((nI_leI (a := nj) (b := i6) (by omega) (by omega)).mpr q))
        refine lv_aload_n hx hb dX5_leaver_17 rfl (lv_at hl 2 rfl) ?_
        refine lv_iload hx hb dX5_leaver_18 (lv_at hl 0 rfl) ?_
        refine lv_iconst (v := 2) hx hb dX5_leaver_20 (by decide) ?_
        refine pcV (rest := []) ⟨hx, hb, hml, hown, hts⟩ (c_X5_of l G cI cQ q z nv nj hm (nI i6) 2 (vp_in_nI (by have := hm.2.2.2; omega) (by decide)) (vp_in_nI (n := 2) (N := 4) (by decide) (by decide))) (cwV 2 hts gX5_leaver_X5_of rfl rfl rfl cd_X5_of ⟨Nat.le_of_ble_eq_true rfl, Nat.le_of_ble_eq_true rfl⟩) hK hP [0, 1, 2, 3, 4, 5, 6] rfl 0 rfl rfl rfl rfl hl.1 rfl (Nat.le_of_ble_eq_true rfl) dX5_leaver_21 ⟨Nat.zero_le _, Nat.zero_le _⟩ ?_
        refine lv_iload_n hx hb dX5_leaver_24 rfl (lv_at hl 3 rfl) ?_
        refine lv_icmp_ne (tgt := 110) hx hb dX5_leaver_25 (by decide) (fun c_3 => ?_) (fun c_3 => ?_)
        · skip
          refine lv_iinc (v := (nI (i6 + 1))) (lv' := [(4, .int (nI (i6 + 1))), (3, .int (mlF (kMs z) p0 p1 i6)), (0, .ref (q 0)), (1, .int p0), (2, .int p1)]) hx hb dX5_leaver_110 hl (k := 0) rfl (nI_1 i6) (by decide) rfl (fun ls hl => ?_)
          refine lv_goto (tgt := 6) hx hb dX5_leaver_113 (by decide) ?_
          have e_4 : (mlF (kMs z) p0 p1 (i6 + 1)) = (mlF (kMs z) p0 p1 i6) := by first | rfl | (simp only [mlF, mLeaver, eq_false c_3, eq_false (Ne.symm c_3), if_true, if_false, and_true, true_and, and_false, false_and, or_true, true_or, or_false, false_or, not_true_eq_false, not_false_eq_true, ne_eq, ite_true, ite_false]; done) | (simp only [mlF, mLeaver, eq_false c_3, eq_false (Ne.symm c_3), if_true, if_false, and_true, true_and, and_false, false_and, or_true, true_or, or_false, false_or, not_true_eq_false, not_false_eq_true, ne_eq, ite_true, ite_false]; rfl)
          exact ih6 (i6 + 1) (by omega) (by omega) (by omega) ls (by rw [e_4]; exact lv_sub hl [0, 1, 2, 3, 4] rfl)
        · skip
          refine lv_iload_n hx hb dX5_leaver_28 rfl (lv_at hl 4 rfl) ?_
          refine lv_iload hx hb dX5_leaver_29 (lv_at hl 0 rfl) ?_
          refine lv_ishr hx hb dX5_leaver_31 ?_
          refine lv_iconst (v := 1) hx hb dX5_leaver_32 (by decide) ?_
          refine lv_iand hx hb dX5_leaver_33 ?_
          refine lv_if_ne (tgt := 110) hx hb dX5_leaver_34 (by decide) (fun c_5 => ?_) (fun c_5 => ?_)
          · skip
            refine lv_iinc (v := (nI (i6 + 1))) (lv' := [(4, .int (nI (i6 + 1))), (3, .int (mlF (kMs z) p0 p1 i6)), (0, .ref (q 0)), (1, .int p0), (2, .int p1)]) hx hb dX5_leaver_110 hl (k := 0) rfl (nI_1 i6) (by decide) rfl (fun ls hl => ?_)
            refine lv_goto (tgt := 6) hx hb dX5_leaver_113 (by decide) ?_
            have e_6 : (mlF (kMs z) p0 p1 (i6 + 1)) = (mlF (kMs z) p0 p1 i6) := by first | rfl | (simp only [mlF, mLeaver, eq_true c_3, eq_true (Eq.symm c_3), eq_false c_5, eq_false (Ne.symm c_5), if_true, if_false, and_true, true_and, and_false, false_and, or_true, true_or, or_false, false_or, not_true_eq_false, not_false_eq_true, ne_eq, ite_true, ite_false]; done) | (simp only [mlF, mLeaver, eq_true c_3, eq_true (Eq.symm c_3), eq_false c_5, eq_false (Ne.symm c_5), if_true, if_false, and_true, true_and, and_false, false_and, or_true, true_or, or_false, false_or, not_true_eq_false, not_false_eq_true, ne_eq, ite_true, ite_false]; rfl)
            exact ih6 (i6 + 1) (by omega) (by omega) (by omega) ls (by rw [e_6]; exact lv_sub hl [0, 1, 2, 3, 4] rfl)
          · skip
            refine lv_iload_n hx hb dX5_leaver_37 rfl (lv_at hl 1 rfl) ?_
            refine lv_bipush (v := (-9)) hx hb dX5_leaver_38 (by decide) ?_
            refine lv_icmp_eq (tgt := 91) hx hb dX5_leaver_40 (by decide) (fun c_7 => ?_) (fun c_7 => ?_)
            · skip
              refine lv_iconst (v := 1) hx hb dX5_leaver_91 (by decide) ?_
              refine lv_goto (tgt := 96) hx hb dX5_leaver_92 (by decide) ?_
              refine lv_istore (lv' := [(5, .int 1), (4, .int (nI i6)), (3, .int (mlF (kMs z) p0 p1 i6)), (0, .ref (q 0)), (1, .int p0), (2, .int p1)]) hx hb dX5_leaver_96 hl (by decide) rfl (fun ls hl => ?_)
              refine lv_iload hx hb dX5_leaver_98 (lv_at hl 0 rfl) ?_
              refine lv_if_eq (tgt := 108) hx hb dX5_leaver_100 (by decide) (fun c_8 => ?_) (fun c_8 => ?_)
              · exact absurd c_8 (by decide)
              refine lv_iload hx hb dX5_leaver_103 (lv_at hl 1 rfl) ?_
              refine lv_goto (tgt := 109) hx hb dX5_leaver_105 (by decide) ?_
              refine lv_istore_n (lv' := [(3, .int (nI i6)), (5, .int 1), (4, .int (nI i6)), (0, .ref (q 0)), (1, .int p0), (2, .int p1)]) hx hb dX5_leaver_109 rfl hl (by decide) rfl (fun ls hl => ?_)
              refine lv_iinc (v := (nI (i6 + 1))) (lv' := [(4, .int (nI (i6 + 1))), (3, .int (nI i6)), (5, .int 1), (0, .ref (q 0)), (1, .int p0), (2, .int p1)]) hx hb dX5_leaver_110 hl (k := 2) rfl (nI_1 i6) (by decide) rfl (fun ls hl => ?_)
              refine lv_goto (tgt := 6) hx hb dX5_leaver_113 (by decide) ?_
              have e_9 : (mlF (kMs z) p0 p1 (i6 + 1)) = (nI i6) := by first | rfl | (simp only [mlF, mLeaver, eq_true c_3, eq_true (Eq.symm c_3), eq_true c_5, eq_true (Eq.symm c_5), eq_true c_7, eq_true (Eq.symm c_7), if_true, if_false, and_true, true_and, and_false, false_and, or_true, true_or, or_false, false_or, not_true_eq_false, not_false_eq_true, ne_eq, ite_true, ite_false]; done) | (simp only [mlF, mLeaver, eq_true c_3, eq_true (Eq.symm c_3), eq_true c_5, eq_true (Eq.symm c_5), eq_true c_7, eq_true (Eq.symm c_7), if_true, if_false, and_true, true_and, and_false, false_and, or_true, true_or, or_false, false_or, not_true_eq_false, not_false_eq_true, ne_eq, ite_true, ite_false]; rfl)
              exact ih6 (i6 + 1) (by omega) (by omega) (by omega) ls (by rw [e_9]; exact lv_sub hl [0, 1, 3, 4, 5] rfl)
            · skip
              refine lv_aload_n hx hb dX5_leaver_43 rfl (lv_at hl 2 rfl) ?_
              refine lv_iload hx hb dX5_leaver_44 (lv_at hl 0 rfl) ?_
              refine lv_iconst (v := 0) hx hb dX5_leaver_46 (by decide) ?_
              refine pcV (rest := []) ⟨hx, hb, hml, hown, hts⟩ (c_X5_of l G cI cQ q z nv nj hm (nI i6) 0 (vp_in_nI (by have := hm.2.2.2; omega) (by decide)) (vp_in_nI (n := 0) (N := 4) (by decide) (by decide))) (cwV 2 hts gX5_leaver_X5_of rfl rfl rfl cd_X5_of ⟨Nat.le_of_ble_eq_true rfl, Nat.le_of_ble_eq_true rfl⟩) hK hP [0, 1, 2, 3, 4, 5, 6] rfl 0 rfl rfl rfl rfl hl.1 rfl (Nat.le_of_ble_eq_true rfl) dX5_leaver_47 ⟨Nat.zero_le _, Nat.zero_le _⟩ ?_
              refine lv_aload_n hx hb dX5_leaver_50 rfl (lv_at hl 2 rfl) ?_
              refine lv_iload_n hx hb dX5_leaver_51 rfl (lv_at hl 1 rfl) ?_
              refine lv_iconst (v := 0) hx hb dX5_leaver_52 (by decide) ?_
              refine pcV (rest := [.int (mOf (kMs z) (nI i6) 0)]) ⟨hx, hb, hml, hown, hts⟩ (c_X5_of l G cI cQ q z nv nj hm (mlF (kMs z) p0 p1 i6) 0 (mlF_vp (by omega) c_7) (vp_in_nI (n := 0) (N := 4) (by decide) (by decide))) (cwV 2 hts gX5_leaver_X5_of rfl rfl rfl cd_X5_of ⟨Nat.le_of_ble_eq_true rfl, Nat.le_of_ble_eq_true rfl⟩) hK hP [0, 1, 2, 3, 4, 5, 6] rfl 0 rfl rfl rfl rfl hl.1 rfl (Nat.le_of_ble_eq_true rfl) dX5_leaver_53 ⟨Nat.zero_le _, Nat.zero_le _⟩ ?_
              refine lv_icmp_gt (tgt := 91) hx hb dX5_leaver_56 (by decide) (fun c_10 => ?_) (fun c_10 => ?_)
              · skip
                refine lv_iconst (v := 1) hx hb dX5_leaver_91 (by decide) ?_
                refine lv_goto (tgt := 96) hx hb dX5_leaver_92 (by decide) ?_
                refine lv_istore (lv' := [(5, .int 1), (4, .int (nI i6)), (3, .int (mlF (kMs z) p0 p1 i6)), (0, .ref (q 0)), (1, .int p0), (2, .int p1)]) hx hb dX5_leaver_96 hl (by decide) rfl (fun ls hl => ?_)
                refine lv_iload hx hb dX5_leaver_98 (lv_at hl 0 rfl) ?_
                refine lv_if_eq (tgt := 108) hx hb dX5_leaver_100 (by decide) (fun c_11 => ?_) (fun c_11 => ?_)
                · exact absurd c_11 (by decide)
                refine lv_iload hx hb dX5_leaver_103 (lv_at hl 1 rfl) ?_
                refine lv_goto (tgt := 109) hx hb dX5_leaver_105 (by decide) ?_
                refine lv_istore_n (lv' := [(3, .int (nI i6)), (5, .int 1), (4, .int (nI i6)), (0, .ref (q 0)), (1, .int p0), (2, .int p1)]) hx hb dX5_leaver_109 rfl hl (by decide) rfl (fun ls hl => ?_)
                refine lv_iinc (v := (nI (i6 + 1))) (lv' := [(4, .int (nI (i6 + 1))), (3, .int (nI i6)), (5, .int 1), (0, .ref (q 0)), (1, .int p0), (2, .int p1)]) hx hb dX5_leaver_110 hl (k := 2) rfl (nI_1 i6) (by decide) rfl (fun ls hl => ?_)
                refine lv_goto (tgt := 6) hx hb dX5_leaver_113 (by decide) ?_
                have e_12 : (mlF (kMs z) p0 p1 (i6 + 1)) = (nI i6) := by first | rfl | (simp only [mlF, mLeaver, eq_true c_3, eq_true (Eq.symm c_3), eq_true c_5, eq_true (Eq.symm c_5), eq_false c_7, eq_false (Ne.symm c_7), eq_true c_10, eq_false (Int32.not_le.mpr c_10), if_true, if_false, and_true, true_and, and_false, false_and, or_true, true_or, or_false, false_or, not_true_eq_false, not_false_eq_true, ne_eq, ite_true, ite_false]; done) | (simp only [mlF, mLeaver, eq_true c_3, eq_true (Eq.symm c_3), eq_true c_5, eq_true (Eq.symm c_5), eq_false c_7, eq_false (Ne.symm c_7), eq_true c_10, eq_false (Int32.not_le.mpr c_10), if_true, if_false, and_true, true_and, and_false, false_and, or_true, true_or, or_false, false_or, not_true_eq_false, not_false_eq_true, ne_eq, ite_true, ite_false]; rfl)
                exact ih6 (i6 + 1) (by omega) (by omega) (by omega) ls (by rw [e_12]; exact lv_sub hl [0, 1, 3, 4, 5] rfl)
              · skip
                refine lv_aload_n hx hb dX5_leaver_59 rfl (lv_at hl 2 rfl) ?_
                refine lv_iload hx hb dX5_leaver_60 (lv_at hl 0 rfl) ?_
                refine lv_iconst (v := 0) hx hb dX5_leaver_62 (by decide) ?_
                refine pcV (rest := []) ⟨hx, hb, hml, hown, hts⟩ (c_X5_of l G cI cQ q z nv nj hm (nI i6) 0 (vp_in_nI (by have := hm.2.2.2; omega) (by decide)) (vp_in_nI (n := 0) (N := 4) (by decide) (by decide))) (cwV 2 hts gX5_leaver_X5_of rfl rfl rfl cd_X5_of ⟨Nat.le_of_ble_eq_true rfl, Nat.le_of_ble_eq_true rfl⟩) hK hP [0, 1, 2, 3, 4, 5, 6] rfl 0 rfl rfl rfl rfl hl.1 rfl (Nat.le_of_ble_eq_true rfl) dX5_leaver_63 ⟨Nat.zero_le _, Nat.zero_le _⟩ ?_
                refine lv_aload_n hx hb dX5_leaver_66 rfl (lv_at hl 2 rfl) ?_
                refine lv_iload_n hx hb dX5_leaver_67 rfl (lv_at hl 1 rfl) ?_
                refine lv_iconst (v := 0) hx hb dX5_leaver_68 (by decide) ?_
                refine pcV (rest := [.int (mOf (kMs z) (nI i6) 0)]) ⟨hx, hb, hml, hown, hts⟩ (c_X5_of l G cI cQ q z nv nj hm (mlF (kMs z) p0 p1 i6) 0 (mlF_vp (by omega) c_7) (vp_in_nI (n := 0) (N := 4) (by decide) (by decide))) (cwV 2 hts gX5_leaver_X5_of rfl rfl rfl cd_X5_of ⟨Nat.le_of_ble_eq_true rfl, Nat.le_of_ble_eq_true rfl⟩) hK hP [0, 1, 2, 3, 4, 5, 6] rfl 0 rfl rfl rfl rfl hl.1 rfl (Nat.le_of_ble_eq_true rfl) dX5_leaver_69 ⟨Nat.zero_le _, Nat.zero_le _⟩ ?_
                refine lv_icmp_ne (tgt := 95) hx hb dX5_leaver_72 (by decide) (fun c_13 => ?_) (fun c_13 => ?_)
                · skip
                  refine lv_iconst (v := 0) hx hb dX5_leaver_95 (by decide) ?_
                  refine lv_istore (lv' := [(5, .int 0), (4, .int (nI i6)), (3, .int (mlF (kMs z) p0 p1 i6)), (0, .ref (q 0)), (1, .int p0), (2, .int p1)]) hx hb dX5_leaver_96 hl (by decide) rfl (fun ls hl => ?_)
                  refine lv_iload hx hb dX5_leaver_98 (lv_at hl 0 rfl) ?_
                  refine lv_if_eq (tgt := 108) hx hb dX5_leaver_100 (by decide) (fun c_14 => ?_) (fun c_14 => ?_)
                  rotate_left
                  · exact absurd c_14 (by decide)
                  refine lv_iload_n hx hb dX5_leaver_108 rfl (lv_at hl 2 rfl) ?_
                  refine lv_istore_n (lv' := [(3, .int (mlF (kMs z) p0 p1 i6)), (5, .int 0), (4, .int (nI i6)), (0, .ref (q 0)), (1, .int p0), (2, .int p1)]) hx hb dX5_leaver_109 rfl hl (by decide) rfl (fun ls hl => ?_)
                  refine lv_iinc (v := (nI (i6 + 1))) (lv' := [(4, .int (nI (i6 + 1))), (3, .int (mlF (kMs z) p0 p1 i6)), (5, .int 0), (0, .ref (q 0)), (1, .int p0), (2, .int p1)]) hx hb dX5_leaver_110 hl (k := 2) rfl (nI_1 i6) (by decide) rfl (fun ls hl => ?_)
                  refine lv_goto (tgt := 6) hx hb dX5_leaver_113 (by decide) ?_
                  have e_15 : (mlF (kMs z) p0 p1 (i6 + 1)) = (mlF (kMs z) p0 p1 i6) := by first | rfl | (simp only [mlF, mLeaver, eq_true c_3, eq_true (Eq.symm c_3), eq_true c_5, eq_true (Eq.symm c_5), eq_false c_7, eq_false (Ne.symm c_7), eq_false c_10, eq_true (Int32.not_lt.mp c_10), eq_false c_13, eq_false (Ne.symm c_13), if_true, if_false, and_true, true_and, and_false, false_and, or_true, true_or, or_false, false_or, not_true_eq_false, not_false_eq_true, ne_eq, ite_true, ite_false]; done) | (simp only [mlF, mLeaver, eq_true c_3, eq_true (Eq.symm c_3), eq_true c_5, eq_true (Eq.symm c_5), eq_false c_7, eq_false (Ne.symm c_7), eq_false c_10, eq_true (Int32.not_lt.mp c_10), eq_false c_13, eq_false (Ne.symm c_13), if_true, if_false, and_true, true_and, and_false, false_and, or_true, true_or, or_false, false_or, not_true_eq_false, not_false_eq_true, ne_eq, ite_true, ite_false]; rfl)
                  exact ih6 (i6 + 1) (by omega) (by omega) (by omega) ls (by rw [e_15]; exact lv_sub hl [0, 1, 3, 4, 5] rfl)
                · skip
                  refine lv_aload_n hx hb dX5_leaver_75 rfl (lv_at hl 2 rfl) ?_
                  refine lv_iload hx hb dX5_leaver_76 (lv_at hl 0 rfl) ?_
                  refine lv_iconst (v := 1) hx hb dX5_leaver_78 (by decide) ?_
                  refine pcV (rest := []) ⟨hx, hb, hml, hown, hts⟩ (c_X5_of l G cI cQ q z nv nj hm (nI i6) 1 (vp_in_nI (by have := hm.2.2.2; omega) (by decide)) (vp_in_nI (n := 1) (N := 4) (by decide) (by decide))) (cwV 2 hts gX5_leaver_X5_of rfl rfl rfl cd_X5_of ⟨Nat.le_of_ble_eq_true rfl, Nat.le_of_ble_eq_true rfl⟩) hK hP [0, 1, 2, 3, 4, 5, 6] rfl 0 rfl rfl rfl rfl hl.1 rfl (Nat.le_of_ble_eq_true rfl) dX5_leaver_79 ⟨Nat.zero_le _, Nat.zero_le _⟩ ?_
                  refine lv_aload_n hx hb dX5_leaver_82 rfl (lv_at hl 2 rfl) ?_
                  refine lv_iload_n hx hb dX5_leaver_83 rfl (lv_at hl 1 rfl) ?_
                  refine lv_iconst (v := 1) hx hb dX5_leaver_84 (by decide) ?_
                  refine pcV (rest := [.int (mOf (kMs z) (nI i6) 1)]) ⟨hx, hb, hml, hown, hts⟩ (c_X5_of l G cI cQ q z nv nj hm (mlF (kMs z) p0 p1 i6) 1 (mlF_vp (by omega) c_7) (vp_in_nI (n := 1) (N := 4) (by decide) (by decide))) (cwV 2 hts gX5_leaver_X5_of rfl rfl rfl cd_X5_of ⟨Nat.le_of_ble_eq_true rfl, Nat.le_of_ble_eq_true rfl⟩) hK hP [0, 1, 2, 3, 4, 5, 6] rfl 0 rfl rfl rfl rfl hl.1 rfl (Nat.le_of_ble_eq_true rfl) dX5_leaver_85 ⟨Nat.zero_le _, Nat.zero_le _⟩ ?_
                  refine lv_icmp_ge (tgt := 95) hx hb dX5_leaver_88 (by decide) (fun c_16 => ?_) (fun c_16 => ?_)
                  · skip
                    refine lv_iconst (v := 0) hx hb dX5_leaver_95 (by decide) ?_
                    refine lv_istore (lv' := [(5, .int 0), (4, .int (nI i6)), (3, .int (mlF (kMs z) p0 p1 i6)), (0, .ref (q 0)), (1, .int p0), (2, .int p1)]) hx hb dX5_leaver_96 hl (by decide) rfl (fun ls hl => ?_)
                    refine lv_iload hx hb dX5_leaver_98 (lv_at hl 0 rfl) ?_
                    refine lv_if_eq (tgt := 108) hx hb dX5_leaver_100 (by decide) (fun c_17 => ?_) (fun c_17 => ?_)
                    rotate_left
                    · exact absurd c_17 (by decide)
                    refine lv_iload_n hx hb dX5_leaver_108 rfl (lv_at hl 2 rfl) ?_
                    refine lv_istore_n (lv' := [(3, .int (mlF (kMs z) p0 p1 i6)), (5, .int 0), (4, .int (nI i6)), (0, .ref (q 0)), (1, .int p0), (2, .int p1)]) hx hb dX5_leaver_109 rfl hl (by decide) rfl (fun ls hl => ?_)
                    refine lv_iinc (v := (nI (i6 + 1))) (lv' := [(4, .int (nI (i6 + 1))), (3, .int (mlF (kMs z) p0 p1 i6)), (5, .int 0), (0, .ref (q 0)), (1, .int p0), (2, .int p1)]) hx hb dX5_leaver_110 hl (k := 2) rfl (nI_1 i6) (by decide) rfl (fun ls hl => ?_)
                    refine lv_goto (tgt := 6) hx hb dX5_leaver_113 (by decide) ?_
                    have e_18 : (mlF (kMs z) p0 p1 (i6 + 1)) = (mlF (kMs z) p0 p1 i6) := by first | rfl | (simp only [mlF, mLeaver, eq_true c_3, eq_true (Eq.symm c_3), eq_true c_5, eq_true (Eq.symm c_5), eq_false c_7, eq_false (Ne.symm c_7), eq_false c_10, eq_true (Int32.not_lt.mp c_10), eq_true c_13, eq_true (Eq.symm c_13), eq_true c_16, eq_false (Int32.not_lt.mpr c_16), if_true, if_false, and_true, true_and, and_false, false_and, or_true, true_or, or_false, false_or, not_true_eq_false, not_false_eq_true, ne_eq, ite_true, ite_false]; done) | (simp only [mlF, mLeaver, eq_true c_3, eq_true (Eq.symm c_3), eq_true c_5, eq_true (Eq.symm c_5), eq_false c_7, eq_false (Ne.symm c_7), eq_false c_10, eq_true (Int32.not_lt.mp c_10), eq_true c_13, eq_true (Eq.symm c_13), eq_true c_16, eq_false (Int32.not_lt.mpr c_16), if_true, if_false, and_true, true_and, and_false, false_and, or_true, true_or, or_false, false_or, not_true_eq_false, not_false_eq_true, ne_eq, ite_true, ite_false]; rfl)
                    exact ih6 (i6 + 1) (by omega) (by omega) (by omega) ls (by rw [e_18]; exact lv_sub hl [0, 1, 3, 4, 5] rfl)
                  · skip
                    refine lv_iconst (v := 1) hx hb dX5_leaver_91 (by decide) ?_
                    refine lv_goto (tgt := 96) hx hb dX5_leaver_92 (by decide) ?_
                    refine lv_istore (lv' := [(5, .int 1), (4, .int (nI i6)), (3, .int (mlF (kMs z) p0 p1 i6)), (0, .ref (q 0)), (1, .int p0), (2, .int p1)]) hx hb dX5_leaver_96 hl (by decide) rfl (fun ls hl => ?_)
                    refine lv_iload hx hb dX5_leaver_98 (lv_at hl 0 rfl) ?_
                    refine lv_if_eq (tgt := 108) hx hb dX5_leaver_100 (by decide) (fun c_19 => ?_) (fun c_19 => ?_)
                    · exact absurd c_19 (by decide)
                    refine lv_iload hx hb dX5_leaver_103 (lv_at hl 1 rfl) ?_
                    refine lv_goto (tgt := 109) hx hb dX5_leaver_105 (by decide) ?_
                    refine lv_istore_n (lv' := [(3, .int (nI i6)), (5, .int 1), (4, .int (nI i6)), (0, .ref (q 0)), (1, .int p0), (2, .int p1)]) hx hb dX5_leaver_109 rfl hl (by decide) rfl (fun ls hl => ?_)
                    refine lv_iinc (v := (nI (i6 + 1))) (lv' := [(4, .int (nI (i6 + 1))), (3, .int (nI i6)), (5, .int 1), (0, .ref (q 0)), (1, .int p0), (2, .int p1)]) hx hb dX5_leaver_110 hl (k := 2) rfl (nI_1 i6) (by decide) rfl (fun ls hl => ?_)
                    refine lv_goto (tgt := 6) hx hb dX5_leaver_113 (by decide) ?_
                    have e_20 : (mlF (kMs z) p0 p1 (i6 + 1)) = (nI i6) := by first | rfl | (simp only [mlF, mLeaver, eq_true c_3, eq_true (Eq.symm c_3), eq_true c_5, eq_true (Eq.symm c_5), eq_false c_7, eq_false (Ne.symm c_7), eq_false c_10, eq_true (Int32.not_lt.mp c_10), eq_true c_13, eq_true (Eq.symm c_13), eq_false c_16, eq_true (Int32.not_le.mp c_16), if_true, if_false, and_true, true_and, and_false, false_and, or_true, true_or, or_false, false_or, not_true_eq_false, not_false_eq_true, ne_eq, ite_true, ite_false]; done) | (simp only [mlF, mLeaver, eq_true c_3, eq_true (Eq.symm c_3), eq_true c_5, eq_true (Eq.symm c_5), eq_false c_7, eq_false (Ne.symm c_7), eq_false c_10, eq_true (Int32.not_lt.mp c_10), eq_true c_13, eq_true (Eq.symm c_13), eq_false c_16, eq_true (Int32.not_le.mp c_16), if_true, if_false, and_true, true_and, and_false, false_and, or_true, true_or, or_false, false_or, not_true_eq_false, not_false_eq_true, ne_eq, ite_true, ite_false]; rfl)
                    exact ih6 (i6 + 1) (by omega) (by omega) (by omega) ls (by rw [e_20]; exact lv_sub hl [0, 1, 3, 4, 5] rfl)
  have e_21 : (nI 0) = 0 := by first | rfl | decide
  have e_22 : (mlF (kMs z) p0 p1 0) = (-9) := by first | rfl | (simp only [mlF, mLeaver, if_true, if_false, and_true, true_and, and_false, false_and, or_true, true_or, or_false, false_or, not_true_eq_false, not_false_eq_true, ne_eq, ite_true, ite_false]; done) | (simp only [mlF, mLeaver, if_true, if_false, and_true, true_and, and_false, false_and, or_true, true_or, or_false, false_or, not_true_eq_false, not_false_eq_true, ne_eq, ite_true, ite_false]; rfl)
  exact L6 (nj + 1) 0 (by omega) (by omega) (by omega) ls (by rw [e_21]; rw [e_22]; exact lv_sub hl [0, 1, 2, 3, 4] rfl)
theorem cd_X5_leaver : yX5_leaver.cls = RX5 ∧ yX5_leaver.cls ≠ "java/lang/invoke/MethodHandle" ∧ yX5_leaver.cls ≠ "java/lang/invoke/VarHandle" ∧ (parseMethodDescriptor yX5_leaver.desc).map (fun d => d.parameters.length) = some 2 := by decide +kernel
