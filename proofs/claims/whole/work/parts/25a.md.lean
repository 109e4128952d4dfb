-- X5_run
theorem lk_X5_run_1 : Cond.fieldLink RX5 160 "EvenLoadsModel" "at" "I" ∈ wsX5_run := List.mem_of_getElem? (i := 1) (by decide +kernel)
theorem lk_X5_run_2 : Cond.fieldLink RX5 166 "EvenLoadsModel" "failing" "I" ∈ wsX5_run := List.mem_of_getElem? (i := 2) (by decide +kernel)
theorem lk_X5_run_3 : Cond.fieldLink RX5 157 "EvenLoadsModel" "typed" "I" ∈ wsX5_run := List.mem_of_getElem? (i := 3) (by decide +kernel)
theorem in_X5_run_X5 : ∀ w ∈ wsX50, w ∈ wsX5_run := by decide +kernel
set_option maxHeartbeats 4000000 in
set_option maxRecDepth 100000 in
theorem c_X5_run (l : Launch) (G : va_G) (cI cQ : ClassId) (q : Nat → Nat) (z : MS) (nv nj : Nat) (hV : mV (kMs z) nv nj) (ht : kMtyped z ≤ 100) (hk : kMkept z ≤ 5) (sz0 : Nat) : Met l yX5_run wsX5_run ({ frames := 11, cells := 0, slots := 0, locals := 241 } : Room) (mPc G cI cQ [.ref (q 0)] ((mdT cI q z)) sz0) (va_Qi (fun (r : Int32) (_ : Unit) => r = (gRun z nv).1) (mB G (va_A ((mdT cI q z)) sz0) (fun _ => (mdT cI q (gRun z nv).2))) (va_A ((mdT cI q z)) sz0)) 0 0 (va_A ((mdT cI q z)) sz0) := by
  refine mm_of (cc := cX5_run) (maxL := 2) (ret := (some .int)) (own := RX5) (by decide) rfl rfl (Nat.le_of_ble_eq_true rfl) rfl ?_
  intro p e s m below meth cd ls A hx hb hr hts hown hlocks hml hA hK hP hD hS hl
  refine lv_aload_n hx hb dX5_run_0 rfl (lv_at hl 0 rfl) ?_
  refine mcVv (rest := []) (wr := []) ⟨hx, hb, hml, hown, hts⟩ (c_X5_aside l G cI cQ q z _) (cwV 0 hts gX5_run_X5_aside rfl rfl rfl cd_X5_aside ⟨Nat.le_of_ble_eq_true rfl, Nat.le_of_ble_eq_true rfl⟩) hK hP hD hS hA [0, 1, 2, 3, 4, 5, 6] [] rfl rfl (by decide) (by decide) (by decide) 0 rfl rfl rfl rfl hl.1 rfl (Nat.le_of_ble_eq_true rfl) dX5_run_1 ⟨Nat.zero_le _, Nat.zero_le _⟩ (fun _ H locs _ hP hD hS => ?_)
  have hP : va_P G vwCl ((mdT cI q (uMbef z (kMs z)))) H := hP
  have hD : va_D A ((mdT cI q (uMbef z (kMs z)))) := hD
  refine lv_aload_n hx hb dX5_run_4 rfl (lv_at hl 0 rfl) ?_
  refine lv_iconst (v := 0) hx hb dX5_run_5 (by decide) ?_
  refine lv_cvt (y := (nI 0)) rfl ?_
  refine va_put (D := G) (ci := 5) (v := .int (nI 0)) (ty := .int) (C := RX5) (T := TX5) (N := 15) hx hb hts in_X5_run_X5 tyX5 tyX5_ok nmX5 hown hK.1 hP hD hS 0 rfl rfl 10 (by decide) (hts _ lk_X5_run_1) (fun _ h9 => h9) rfl (by decide +kernel) rfl rfl (Nat.le_of_ble_eq_true rfl) dX5_run_6 (fun H locs hP hD hS => ?_)
  have hP : va_P G vwCl ((mdT cI q (uMat (uMbef z (kMs z)) 0))) H := hP
  have hD : va_D A ((mdT cI q (uMat (uMbef z (kMs z)) 0))) := hD
  refine lv_aload_n hx hb dX5_run_9 rfl (lv_at hl 0 rfl) ?_
  refine lv_bipush (v := (-9)) hx hb dX5_run_10 (by decide) ?_
  refine va_put (D := G) (ci := 5) (v := .int (-9)) (ty := .int) (C := RX5) (T := TX5) (N := 15) hx hb hts in_X5_run_X5 tyX5 tyX5_ok nmX5 hown hK.1 hP hD hS 0 rfl rfl 11 (by decide) (hts _ lk_X5_run_2) (fun _ h9 => h9) rfl (by decide +kernel) rfl rfl (Nat.le_of_ble_eq_true rfl) dX5_run_12 (fun H locs hP hD hS => ?_)
  have hP : va_P G vwCl ((mdT cI q (uMfail (uMat (uMbef z (kMs z)) 0) (-9)))) H := hP
  have hD : va_D A ((mdT cI q (uMfail (uMat (uMbef z (kMs z)) 0) (-9)))) := hD
  refine lv_iconst (v := 0) hx hb dX5_run_15 (by decide) ?_
  refine lv_istore_n (lv' := [(1, .int 0), (0, .ref (q 0))]) hx hb dX5_run_16 rfl hl (by decide) rfl (fun ls hl => ?_)
  refine lv_aload_n hx hb dX5_run_17 rfl (lv_at hl 1 rfl) ?_
  refine mcV (rest := []) (wr := []) ⟨hx, hb, hml, hown, hts⟩ (c_X5_skips l G cI cQ q (uMfail (uMat (uMbef z (kMs z)) 0) (-9)) (⟨Nat.zero_le _, ht⟩ : mT (zR z)) _) (cwV 0 hts gX5_run_X5_skips rfl rfl rfl cd_X5_skips ⟨Nat.le_of_ble_eq_true rfl, Nat.le_of_ble_eq_true rfl⟩) hK hP hD hS hA [0, 1, 2, 3, 4, 5, 6] [] rfl rfl (by decide) (by decide) (by decide) 0 rfl rfl rfl rfl hl.1 rfl (Nat.le_of_ble_eq_true rfl) dX5_run_18 ⟨Nat.zero_le _, Nat.zero_le _⟩ (fun r _ H locs hr9 hP hD hS => ?_)
  subst hr9
  have hP : va_P G vwCl ((mdT cI q (uMfail (uMat (uMbef z (kMs z)) (0 + sk (uMfail (uMat (uMbef z (kMs z)) 0) (-9)))) (-9)))) H := hP
  have hD : va_D A ((mdT cI q (uMfail (uMat (uMbef z (kMs z)) (0 + sk (uMfail (uMat (uMbef z (kMs z)) 0) (-9)))) (-9)))) := hD
  refine lv_pop hx hb dX5_run_21 rfl ?_
  have L22 : ∀ (n22 i22 : Nat), 0 ≤ i22 → i22 ≤ kMtyped z → kMtyped z + 1 ≤ i22 + n22 → zE z nv = ((rnF nv (kMtyped z - i22) (itQ nv (zS z) i22)).1 + i22, (rnF nv (kMtyped z - i22) (itQ nv (zS z) i22)).2) → (kMfail (itQ nv (zS z) i22) = -9 → i22 ≤ kMat (itQ nv (zS z) i22)) → ∀ (H : Heap) (locs : List Loc), va_P G vwCl ((mdT cI q (itQ nv (zS z) i22))) H → va_D A ((mdT cI q (itQ nv (zS z) i22))) → va_S A s.heap H locs → ∀ (ls : Array Slot), lv_has ls 2 [(1, .int (nI i22)), (0, .ref (q 0))] → W p l e ({ frames := 11, cells := 0, slots := 0, locals := 241 } : Room) s m ([.ref (q 0)] : List Value).toArray below meth cd H locs 0 0 (MQ below (va_Qi (fun (r : Int32) (_ : Unit) => r = (gRun z nv).1) (mB G (A) (fun _ => (mdT cI q (gRun z nv).2))) (A)) ([.ref (q 0)] : List Value).toArray s 0 0 A) (F0 m 22 ls []) := by
    intro n22
    induction n22 with
    | zero => intro i22 h0 h1 h2; exact absurd h2 (by omega)
    | succ n22 ih22 =>
      intro i22 hlo22 hle22 hin22 hinv hAt H locs hP hD hS ls hl
      have hQ : mQ nv (zS z) (itQ nv (zS z) i22) := itQ_mQ (zS_mQ hV ht) i22
      have hy9 : kMtyped (itQ nv (zS z) i22) = kMtyped z := hQ.2.2.2.2.2.2
      refine lv_aload_n hx hb dX5_run_22 rfl (lv_at hl 1 rfl) ?_
      refine va_get (D := G) (ci := 5) (v := .int (nI (kMat (itQ nv (zS z) i22)))) (C := RX5) (T := TX5) (N := 15) hx hb hts in_X5_run_X5 hown hK.1 hP 0 rfl rfl 10 (by decide) (hts _ lk_X5_run_1) (fun _ h9 => h9) rfl dX5_run_23 ?_
      refine lv_aload_n hx hb dX5_run_26 rfl (lv_at hl 1 rfl) ?_
      refine va_get (D := G) (ci := 5) (v := .int (nI (kMtyped (itQ nv (zS z) i22)))) (C := RX5) (T := TX5) (N := 15) hx hb hts in_X5_run_X5 hown hK.1 hP 0 rfl rfl 9 (by decide) (hts _ lk_X5_run_3) (fun _ h9 => h9) rfl dX5_run_27 ?_
      refine lv_icmp_ge (tgt := 66) hx hb dX5_run_30 (by decide) (fun c_1 => ?_) (fun c_1 => ?_)
      · skip
        have q9 : zE z nv = (0 + i22, itQ nv (zS z) i22) := by
          have h8 : rnF nv (kMtyped z - i22) (itQ nv (zS z) i22) = (0, itQ nv (zS z) i22) := rn_no (fun h9 => h9.1 c_1)
          rw [h8] at hinv
          exact hinv
        have q1 : itQ nv (zS z) i22 = (zE z nv).2 := (congrArg Prod.snd q9).symm
        have q2 : (zE z nv).1 = i22 := (congrArg Prod.fst q9).trans (Nat.zero_add _)
        rw [q1] at hP hD hQ c_1
        subst q2
        have hk : kMkept (zE z nv).2 ≤ 5 := Nat.le_trans (Nat.le_of_eq hQ.2.2.2.2.1) hk
        have hP : va_P G vwCl ((mdT cI q (zE z nv).2)) H := hP
        have hD : va_D A ((mdT cI q (zE z nv).2)) := hD
        refine lv_aload_n hx hb dX5_run_66 rfl (lv_at hl 1 rfl) ?_
        refine va_get (D := G) (ci := 5) (v := .int (kMfail (zE z nv).2)) (C := RX5) (T := TX5) (N := 15) hx hb hts in_X5_run_X5 hown hK.1 hP 0 rfl rfl 11 (by decide) (hts _ lk_X5_run_2) (fun _ h9 => h9) rfl dX5_run_67 ?_
        refine lv_bipush (v := (-9)) hx hb dX5_run_70 (by decide) ?_
        refine lv_icmp_eq (tgt := 88) hx hb dX5_run_72 (by decide) (fun c_2 => ?_) (fun c_2 => ?_)
        · skip
          refine lv_aload_n hx hb dX5_run_88 rfl (lv_at hl 1 rfl) ?_
          refine lv_iconst (v := 0) hx hb dX5_run_89 (by decide) ?_
          refine lv_cvt (y := (nI 0)) rfl ?_
          refine va_put (D := G) (ci := 5) (v := .int (nI 0)) (ty := .int) (C := RX5) (T := TX5) (N := 15) hx hb hts in_X5_run_X5 tyX5 tyX5_ok nmX5 hown hK.1 hP hD hS 0 rfl rfl 9 (by decide) (hts _ lk_X5_run_3) (fun _ h9 => h9) rfl (by decide +kernel) rfl rfl (Nat.le_of_ble_eq_true rfl) dX5_run_90 (fun H locs hP hD hS => ?_)
          have hP : va_P G vwCl ((mdT cI q (uMtyped (zE z nv).2 0))) H := hP
          have hD : va_D A ((mdT cI q (uMtyped (zE z nv).2 0))) := hD
          refine lv_aload_n hx hb dX5_run_93 rfl (lv_at hl 1 rfl) ?_
          refine lv_iload_n hx hb dX5_run_94 rfl (lv_at hl 0 rfl) ?_
          refine mcV (rest := []) (wr := []) ⟨hx, hb, hml, hown, hts⟩ (c_X5_acted l G cI cQ q (uMtyped (zE z nv).2 0) hk (nI ((zE z nv).1)) _) (cwV 1 hts gX5_run_X5_acted rfl rfl rfl cd_X5_acted ⟨Nat.le_of_ble_eq_true rfl, Nat.le_of_ble_eq_true rfl⟩) hK hP hD hS hA [0, 1, 2, 3, 4, 5, 6] [] rfl rfl (by decide) (by decide) (by decide) 0 rfl rfl rfl rfl hl.1 rfl (Nat.le_of_ble_eq_true rfl) dX5_run_95 ⟨Nat.zero_le _, Nat.zero_le _⟩ (fun r _ H locs hr9 hP hD hS => ?_)
          subst hr9
          have hP : va_P G vwCl ((mdT cI q (gActed (uMtyped (zE z nv).2 0) (nI ((zE z nv).1))))) H := hP
          have hD : va_D A ((mdT cI q (gActed (uMtyped (zE z nv).2 0) (nI ((zE z nv).1))))) := hD
          exact m_ret () hx hb hr hlocks rfl (by rw [gRun, if_pos c_2]) (by rw [show (gRun z nv).2 = (gActed (uMtyped (zE z nv).2 0) (nI ((zE z nv).1))) from by rw [gRun, if_pos c_2]]; exact hP) (by rw [show (gRun z nv).2 = (gActed (uMtyped (zE z nv).2 0) (nI ((zE z nv).1))) from by rw [gRun, if_pos c_2]]; exact hD) hS dX5_run_98
        · skip
          refine lv_aload_n hx hb dX5_run_75 rfl (lv_at hl 1 rfl) ?_
          refine mcVv (rest := []) (wr := []) ⟨hx, hb, hml, hown, hts⟩ (c_X5_layBack l G cI cQ q ((zE z nv).2) _) (cwV 0 hts gX5_run_X5_layBack rfl rfl rfl cd_X5_layBack ⟨Nat.le_of_ble_eq_true rfl, Nat.le_of_ble_eq_true rfl⟩) hK hP hD hS hA [0, 1, 2, 3, 4, 5, 6] [] rfl rfl (by decide) (by decide) (by decide) 0 rfl rfl rfl rfl hl.1 rfl (Nat.le_of_ble_eq_true rfl) dX5_run_76 ⟨Nat.zero_le _, Nat.zero_le _⟩ (fun _ H locs _ hP hD hS => ?_)
          have hP : va_P G vwCl ((mdT cI q (uMs ((zE z nv).2) (kMbef ((zE z nv).2))))) H := hP
          have hD : va_D A ((mdT cI q (uMs ((zE z nv).2) (kMbef ((zE z nv).2))))) := hD
          refine lv_sipush (v := (-1000)) hx hb dX5_run_79 (by decide) ?_
          refine lv_aload_n hx hb dX5_run_82 rfl (lv_at hl 1 rfl) ?_
          refine va_get (D := G) (ci := 5) (v := .int (kMfail ((zE z nv).2))) (C := RX5) (T := TX5) (N := 15) hx hb hts in_X5_run_X5 hown hK.1 hP 0 rfl rfl 11 (by decide) (hts _ lk_X5_run_2) (fun _ h9 => h9) rfl dX5_run_83 ?_
          refine lv_isub hx hb dX5_run_86 ?_
          exact m_ret () hx hb hr hlocks rfl (by rw [gRun, if_neg c_2]) (by rw [show (gRun z nv).2 = (uMs ((zE z nv).2) (kMbef ((zE z nv).2))) from by rw [gRun, if_neg c_2]]; exact hP) (by rw [show (gRun z nv).2 = (uMs ((zE z nv).2) (kMbef ((zE z nv).2))) from by rw [gRun, if_neg c_2]]; exact hD) hS dX5_run_87
      · skip
        have ha9 : kMat (itQ nv (zS z) i22) < kMtyped z := by rw [← hy9]; exact Nat.lt_of_not_le (fun h9 => c_1 ((look_c hQ.1).mpr h9))
        refine lv_aload_n hx hb dX5_run_33 rfl (lv_at hl 1 rfl) ?_
        refine va_get (D := G) (ci := 5) (v := .int (kMfail (itQ nv (zS z) i22))) (C := RX5) (T := TX5) (N := 15) hx hb hts in_X5_run_X5 hown hK.1 hP 0 rfl rfl 11 (by decide) (hts _ lk_X5_run_2) (fun _ h9 => h9) rfl dX5_run_34 ?_
        refine lv_bipush (v := (-9)) hx hb dX5_run_37 (by decide) ?_
        refine lv_icmp_ne (tgt := 66) hx hb dX5_run_39 (by decide) (fun c_3 => ?_) (fun c_3 => ?_)
        · skip
          have q9 : zE z nv = (0 + i22, itQ nv (zS z) i22) := by
            have h8 : rnF nv (kMtyped z - i22) (itQ nv (zS z) i22) = (0, itQ nv (zS z) i22) := rn_no (fun h9 => c_3 h9.2)
            rw [h8] at hinv
            exact hinv
          have q1 : itQ nv (zS z) i22 = (zE z nv).2 := (congrArg Prod.snd q9).symm
          have q2 : (zE z nv).1 = i22 := (congrArg Prod.fst q9).trans (Nat.zero_add _)
          rw [q1] at hP hD hQ c_3
          subst q2
          have hk : kMkept (zE z nv).2 ≤ 5 := Nat.le_trans (Nat.le_of_eq hQ.2.2.2.2.1) hk
          have hP : va_P G vwCl ((mdT cI q (zE z nv).2)) H := hP
          have hD : va_D A ((mdT cI q (zE z nv).2)) := hD
          refine lv_aload_n hx hb dX5_run_66 rfl (lv_at hl 1 rfl) ?_
          refine va_get (D := G) (ci := 5) (v := .int (kMfail (zE z nv).2)) (C := RX5) (T := TX5) (N := 15) hx hb hts in_X5_run_X5 hown hK.1 hP 0 rfl rfl 11 (by decide) (hts _ lk_X5_run_2) (fun _ h9 => h9) rfl dX5_run_67 ?_
          refine lv_bipush (v := (-9)) hx hb dX5_run_70 (by decide) ?_
          refine lv_icmp_eq (tgt := 88) hx hb dX5_run_72 (by decide) (fun c_4 => ?_) (fun c_4 => ?_)
          · skip
            exact absurd c_4 c_3
          · skip
            refine lv_aload_n hx hb dX5_run_75 rfl (lv_at hl 1 rfl) ?_
            refine mcVv (rest := []) (wr := []) ⟨hx, hb, hml, hown, hts⟩ (c_X5_layBack l G cI cQ q ((zE z nv).2) _) (cwV 0 hts gX5_run_X5_layBack rfl rfl rfl cd_X5_layBack ⟨Nat.le_of_ble_eq_true rfl, Nat.le_of_ble_eq_true rfl⟩) hK hP hD hS hA [0, 1, 2, 3, 4, 5, 6] [] rfl rfl (by decide) (by decide) (by decide) 0 rfl rfl rfl rfl hl.1 rfl (Nat.le_of_ble_eq_true rfl) dX5_run_76 ⟨Nat.zero_le _, Nat.zero_le _⟩ (fun _ H locs _ hP hD hS => ?_)
            have hP : va_P G vwCl ((mdT cI q (uMs ((zE z nv).2) (kMbef ((zE z nv).2))))) H := hP
            have hD : va_D A ((mdT cI q (uMs ((zE z nv).2) (kMbef ((zE z nv).2))))) := hD
            refine lv_sipush (v := (-1000)) hx hb dX5_run_79 (by decide) ?_
            refine lv_aload_n hx hb dX5_run_82 rfl (lv_at hl 1 rfl) ?_
            refine va_get (D := G) (ci := 5) (v := .int (kMfail ((zE z nv).2))) (C := RX5) (T := TX5) (N := 15) hx hb hts in_X5_run_X5 hown hK.1 hP 0 rfl rfl 11 (by decide) (hts _ lk_X5_run_2) (fun _ h9 => h9) rfl dX5_run_83 ?_
            refine lv_isub hx hb dX5_run_86 ?_
            exact m_ret () hx hb hr hlocks rfl (by rw [gRun, if_neg c_3]) (by rw [show (gRun z nv).2 = (uMs ((zE z nv).2) (kMbef ((zE z nv).2))) from by rw [gRun, if_neg c_3]]; exact hP) (by rw [show (gRun z nv).2 = (uMs ((zE z nv).2) (kMbef ((zE z nv).2))) from by rw [gRun, if_neg c_3]]; exact hD) hS dX5_run_87
        · skip
          have hlt22 : i22 < kMtyped z := Nat.lt_of_le_of_lt (hAt c_3) ha9
          refine lv_aload_n hx hb dX5_run_42 rfl (lv_at hl 1 rfl) ?_
          refine mcVv (rest := []) (wr := []) ⟨hx, hb, hml, hown, hts⟩ (c_X5_order l G cI cQ q (itQ nv (zS z) i22) nv (njo (itQ nv (zS z) i22)) hQ.2.1 hQ.1 _) (cwV 0 hts gX5_run_X5_order rfl rfl rfl cd_X5_order ⟨Nat.le_of_ble_eq_true rfl, Nat.le_of_ble_eq_true rfl⟩) hK hP hD hS hA [0, 1, 2, 3, 4, 5, 6] [] rfl rfl (by decide) (by decide) (by decide) 0 rfl rfl rfl rfl hl.1 rfl (Nat.le_of_ble_eq_true rfl) dX5_run_43 ⟨Nat.zero_le _, Nat.zero_le _⟩ (fun _ H locs _ hP hD hS => ?_)
          have hP : va_P G vwCl ((mdT cI q (gOrder (itQ nv (zS z) i22) nv (njo (itQ nv (zS z) i22))))) H := hP
          have hD : va_D A ((mdT cI q (gOrder (itQ nv (zS z) i22) nv (njo (itQ nv (zS z) i22))))) := hD
          refine lv_iinc (v := (nI (i22 + 1))) (lv' := [(1, .int (nI (i22 + 1))), (0, .ref (q 0))]) hx hb dX5_run_46 hl (k := 0) rfl (nI_1 i22) (by decide) rfl (fun ls hl => ?_)
          refine lv_aload_n hx hb dX5_run_49 rfl (lv_at hl 1 rfl) ?_
          refine va_get (D := G) (ci := 5) (v := .int (kMfail (gOrder (itQ nv (zS z) i22) nv (njo (itQ nv (zS z) i22))))) (C := RX5) (T := TX5) (N := 15) hx hb hts in_X5_run_X5 hown hK.1 hP 0 rfl rfl 11 (by decide) (hts _ lk_X5_run_2) (fun _ h9 => h9) rfl dX5_run_50 ?_
          refine lv_bipush (v := (-9)) hx hb dX5_run_53 (by decide) ?_
          refine lv_icmp_ne (tgt := 22) hx hb dX5_run_55 (by decide) (fun c_5 => ?_) (fun c_5 => ?_)
          · skip
            have e_6 : (itQ nv (zS z) (i22 + 1)) = (gOrder (itQ nv (zS z) i22) nv (njo (itQ nv (zS z) i22))) := by (show gRnd nv _ = _); unfold gRnd; simp only [eq_false c_5, eq_false (Ne.symm c_5), if_true, if_false, and_true, true_and, and_false, false_and, or_true, true_or, or_false, false_or, not_true_eq_false, not_false_eq_true, ne_eq, ite_true, ite_false]
            exact ih22 (i22 + 1) (by omega) (by omega) (by omega) (rn_go hlt22 ⟨c_1, c_3⟩ hinv) (fun h9 => by have h8 := rnd_at hQ.1 h9; have h7 := hAt c_3; exact Nat.le_trans (Nat.succ_le_succ h7) h8) _ _ (by rw [e_6]; exact hP) (by rw [e_6]; exact hD) hS ls (by exact lv_sub hl [0, 1] rfl)
          · skip
            refine lv_aload_n hx hb dX5_run_58 rfl (lv_at hl 1 rfl) ?_
            refine mcV (rest := []) (wr := []) ⟨hx, hb, hml, hown, hts⟩ (c_X5_skips l G cI cQ q (gOrder (itQ nv (zS z) i22) nv (njo (itQ nv (zS z) i22))) (gOrder_mT nv _ hQ.1) _) (cwV 0 hts gX5_run_X5_skips rfl rfl rfl cd_X5_skips ⟨Nat.le_of_ble_eq_true rfl, Nat.le_of_ble_eq_true rfl⟩) hK hP hD hS hA [0, 1, 2, 3, 4, 5, 6] [] rfl rfl (by decide) (by decide) (by decide) 0 rfl rfl rfl rfl hl.1 rfl (Nat.le_of_ble_eq_true rfl) dX5_run_59 ⟨Nat.zero_le _, Nat.zero_le _⟩ (fun r _ H locs hr9 hP hD hS => ?_)
            subst hr9
            have hP : va_P G vwCl ((mdT cI q (uMat (gOrder (itQ nv (zS z) i22) nv (njo (itQ nv (zS z) i22))) (kMat (gOrder (itQ nv (zS z) i22) nv (njo (itQ nv (zS z) i22))) + sk (gOrder (itQ nv (zS z) i22) nv (njo (itQ nv (zS z) i22))))))) H := hP
            have hD : va_D A ((mdT cI q (uMat (gOrder (itQ nv (zS z) i22) nv (njo (itQ nv (zS z) i22))) (kMat (gOrder (itQ nv (zS z) i22) nv (njo (itQ nv (zS z) i22))) + sk (gOrder (itQ nv (zS z) i22) nv (njo (itQ nv (zS z) i22))))))) := hD
            refine lv_pop hx hb dX5_run_62 rfl ?_
            refine lv_goto (tgt := 22) hx hb dX5_run_63 (by decide) ?_
            have e_7 : (itQ nv (zS z) (i22 + 1)) = (uMat (gOrder (itQ nv (zS z) i22) nv (njo (itQ nv (zS z) i22))) (kMat (gOrder (itQ nv (zS z) i22) nv (njo (itQ nv (zS z) i22))) + sk (gOrder (itQ nv (zS z) i22) nv (njo (itQ nv (zS z) i22))))) := by (show gRnd nv _ = _); unfold gRnd; simp only [eq_true c_5, eq_true (Eq.symm c_5), if_true, if_false, and_true, true_and, and_false, false_and, or_true, true_or, or_false, false_or, not_true_eq_false, not_false_eq_true, ne_eq, ite_true, ite_false]
            exact ih22 (i22 + 1) (by omega) (by omega) (by omega) (rn_go hlt22 ⟨c_1, c_3⟩ hinv) (fun h9 => by have h8 := rnd_at hQ.1 h9; have h7 := hAt c_3; exact Nat.le_trans (Nat.succ_le_succ h7) h8) _ _ (by rw [e_7]; exact hP) (by rw [e_7]; exact hD) hS ls (by exact lv_sub hl [0, 1] rfl)
  have e_8 : (nI 0) = 0 := by first | rfl | decide
  have e_9 : (itQ nv (zS z) 0) = (uMfail (uMat (uMbef z (kMs z)) (0 + sk (uMfail (uMat (uMbef z (kMs z)) 0) (-9)))) (-9)) := by rfl
  exact L22 (kMtyped z + 1) 0 (by omega) (by omega) (by omega) (by rfl) (fun _ => Nat.zero_le _) _ _ (by rw [e_9]; exact hP) (by rw [e_9]; exact hD) hS ls (by rw [e_8]; exact lv_sub hl [0, 1] rfl)
theorem cd_X5_run : yX5_run.cls = RX5 ∧ yX5_run.cls ≠ "java/lang/invoke/MethodHandle" ∧ yX5_run.cls ≠ "java/lang/invoke/VarHandle" ∧ (parseMethodDescriptor yX5_run.desc).map (fun d => d.parameters.length) = some 0 := by decide +kernel
