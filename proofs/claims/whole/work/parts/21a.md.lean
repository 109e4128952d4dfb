-- X5_evens
theorem lk_X5_evens_1 : Cond.fieldLink RX5 117 "EvenLoadsModel" "stepOther" "I" ∈ wsX5_evens := List.mem_of_getElem? (i := 1) (by decide +kernel)
theorem lk_X5_evens_2 : Cond.fieldLink RX5 107 "EvenLoadsModel" "stepJob" "I" ∈ wsX5_evens := List.mem_of_getElem? (i := 2) (by decide +kernel)
theorem lk_X5_evens_3 : Cond.fieldLink RX5 114 "EvenLoadsModel" "stepServer" "I" ∈ wsX5_evens := List.mem_of_getElem? (i := 3) (by decide +kernel)
theorem in_X5_evens_X5 : ∀ w ∈ wsX50, w ∈ wsX5_evens := by decide +kernel
set_option maxHeartbeats 4000000 in
set_option maxRecDepth 100000 in
theorem c_X5_evens (l : Launch) (G : va_G) (cI cQ : ClassId) (q : Nat → Nat) (z : MS) (nv nj : Nat) (p0 : Int32) (N : Nat) (hN : N ≤ 30) (eN : p0 = nI N) (hV : mV (kMs z) nv nj) (sz0 : Nat) : Met l yX5_evens wsX5_evens ({ frames := 7, cells := 0, slots := 0, locals := 148 } : Room) (mPc G cI cQ [.ref (q 0), .int p0] ((mdT cI q z)) sz0) (va_Qi (fun (r : Int32) (_ : Unit) => r = (nI (evF nv nj N z).1)) (mB G (va_A ((mdT cI q z)) sz0) (fun _ => (mdT cI q (evF nv nj N z).2))) (va_A ((mdT cI q z)) sz0)) 0 0 (va_A ((mdT cI q z)) sz0) := by
  refine mm_of (cc := cX5_evens) (maxL := 4) (ret := (some .int)) (own := RX5) (by decide) rfl rfl (Nat.le_of_ble_eq_true rfl) rfl ?_
  intro p e s m below meth cd ls A hx hb hr hts hown hlocks hml hA hK hP hD hS hl
  refine lv_iconst (v := 0) hx hb dX5_evens_0 (by decide) ?_
  refine lv_istore_n (lv' := [(2, .int 0), (0, .ref (q 0)), (1, .int p0)]) hx hb dX5_evens_1 rfl hl (by decide) rfl (fun ls hl => ?_)
  have L2 : ∀ (n2 i2 : Nat), 0 ≤ i2 → i2 ≤ N → N + 1 ≤ i2 + n2 → evF nv nj N z = ((evF nv nj (N - i2) (itM nv nj z i2)).1 + i2, (evF nv nj (N - i2) (itM nv nj z i2)).2) → mV (kMs (itM nv nj z i2)) nv nj → ∀ (H : Heap) (locs : List Loc), va_P G vwCl ((mdT cI q (itM nv nj z i2))) H → va_D A ((mdT cI q (itM nv nj z i2))) → va_S A s.heap H locs → ∀ (ls : Array Slot), lv_has ls 4 [(2, .int (nI i2)), (0, .ref (q 0)), (1, .int p0)] → W p l e ({ frames := 7, cells := 0, slots := 0, locals := 148 } : Room) s m ([.ref (q 0), .int p0] : List Value).toArray below meth cd H locs 0 0 (MQ below (va_Qi (fun (r : Int32) (_ : Unit) => r = (nI (evF nv nj N z).1)) (mB G (A) (fun _ => (mdT cI q (evF nv nj N z).2))) (A)) ([.ref (q 0), .int p0] : List Value).toArray s 0 0 A) (F0 m 2 ls []) := by
    intro n2
    induction n2 with
    | zero => intro i2 h0 h1 h2; exact absurd h2 (by omega)
    | succ n2 ih2 =>
      intro i2 hlo2 hle2 hin2 hinv hVi H locs hP hD hS ls hl
      refine lv_iload_n hx hb dX5_evens_2 rfl (lv_at hl 0 rfl) ?_
      refine lv_iload_n hx hb dX5_evens_3 rfl (lv_at hl 2 rfl) ?_
      refine lv_cvt (y := (nI N)) eN ?_
      refine lv_icmp_ge (tgt := 66) hx hb dX5_evens_4 (by decide) (fun c_1 => ?_) (fun c_1 => ?_)
      · skip
        have q_2 : N = i2 := by have h9 := (nI_leI (a := N) (b := i2) (by omega) (by omega)).mp c_1; omega
        subst q_2
        refine lv_iload_n hx hb dX5_evens_66 rfl (lv_at hl 0 rfl) ?_
        exact m_ret () hx hb hr hlocks rfl (by rw [hinv, Nat.sub_self]; (try simp only [evF, Nat.zero_add])) (by rw [show (evF nv nj N z).2 = (itM nv nj z N) from by rw [hinv, Nat.sub_self]; (try simp only [evF, Nat.zero_add])]; exact hP) (by rw [show (evF nv nj N z).2 = (itM nv nj z N) from by rw [hinv, Nat.sub_self]; (try simp only [evF, Nat.zero_add])]; exact hD) hS dX5_evens_67
      · skip
        have hlt2 : i2 < N := Nat.lt_of_not_le (fun q => c_1 ((nI_leI (a := N) (b := i2) (by omega) (by omega)).mpr q))
        refine lv_aload_n hx hb dX5_evens_7 rfl (lv_at hl 1 rfl) ?_
        refine mcV (rest := []) (wr := []) ⟨hx, hb, hml, hown, hts⟩ (c_X5_findsStep l G cI cQ q (itM nv nj z i2) nv nj hVi.1 _) (cwV 0 hts gX5_evens_X5_findsStep rfl rfl rfl cd_X5_findsStep ⟨Nat.le_of_ble_eq_true rfl, Nat.le_of_ble_eq_true rfl⟩) hK hP hD hS hA [0, 1, 2, 3, 4, 5, 6] [] rfl rfl (by decide) (by decide) (by decide) 0 rfl rfl rfl rfl hl.1 rfl (Nat.le_of_ble_eq_true rfl) dX5_evens_8 ⟨Nat.zero_le _, Nat.zero_le _⟩ (fun r _ H locs hr9 hP hD hS => ?_)
        subst hr9
        have hP : va_P G vwCl ((mdT cI q (gFind (itM nv nj z i2) nv nj))) H := hP
        have hD : va_D A ((mdT cI q (gFind (itM nv nj z i2) nv nj))) := hD
        refine lv_if_eq (tgt := 66) hx hb dX5_evens_11 (by decide) (fun c_3 => ?_) (fun c_3 => ?_)
        · skip
          have c_3 := bI_0.mp c_3
          refine lv_iload_n hx hb dX5_evens_66 rfl (lv_at hl 0 rfl) ?_
          exact m_ret () hx hb hr hlocks rfl (by rw [hinv, show N - i2 = (N - (i2 + 1)) + 1 from by omega, evF, if_neg c_3]; (try simp only [Nat.zero_add])) (by rw [show (evF nv nj N z).2 = (gFind (itM nv nj z i2) nv nj) from by rw [hinv, show N - i2 = (N - (i2 + 1)) + 1 from by omega, evF, if_neg c_3]; (try simp only [Nat.zero_add])]; exact hP) (by rw [show (evF nv nj N z).2 = (gFind (itM nv nj z i2) nv nj) from by rw [hinv, show N - i2 = (N - (i2 + 1)) + 1 from by omega, evF, if_neg c_3]; (try simp only [Nat.zero_add])]; exact hD) hS dX5_evens_67
        · skip
          have c_3 := bI_n0.mp c_3
          refine lv_aload_n hx hb dX5_evens_14 rfl (lv_at hl 1 rfl) ?_
          refine va_get (D := G) (ci := 5) (v := .int (kMso (gFind (itM nv nj z i2) nv nj))) (C := RX5) (T := TX5) (N := 15) hx hb hts in_X5_evens_X5 hown hK.1 hP 0 rfl rfl 6 (by decide) (hts _ lk_X5_evens_1) (fun _ h9 => h9) rfl dX5_evens_15 ?_
          refine lv_bipush (v := (-9)) hx hb dX5_evens_18 (by decide) ?_
          refine lv_icmp_ne (tgt := 38) hx hb dX5_evens_20 (by decide) (fun c_4 => ?_) (fun c_4 => ?_)
          · skip
            refine lv_aload_n hx hb dX5_evens_38 rfl (lv_at hl 1 rfl) ?_
            refine lv_aload_n hx hb dX5_evens_39 rfl (lv_at hl 1 rfl) ?_
            refine va_get (D := G) (ci := 5) (v := .int (kMsj (gFind (itM nv nj z i2) nv nj))) (C := RX5) (T := TX5) (N := 15) hx hb hts in_X5_evens_X5 hown hK.1 hP 0 rfl rfl 4 (by decide) (hts _ lk_X5_evens_2) (fun _ h9 => h9) rfl dX5_evens_40 ?_
            refine lv_aload_n hx hb dX5_evens_43 rfl (lv_at hl 1 rfl) ?_
            refine va_get (D := G) (ci := 5) (v := .int (kMso (gFind (itM nv nj z i2) nv nj))) (C := RX5) (T := TX5) (N := 15) hx hb hts in_X5_evens_X5 hown hK.1 hP 0 rfl rfl 6 (by decide) (hts _ lk_X5_evens_1) (fun _ h9 => h9) rfl dX5_evens_44 ?_
            refine mcV (rest := []) (wr := []) ⟨hx, hb, hml, hown, hts⟩ (c_X5_exchanges l G cI cQ q (gFind (itM nv nj z i2) nv nj) nv nj (MI_of (gFind_s _ nv nj) hVi.1) (kMsj (gFind (itM nv nj z i2) nv nj)) (kMso (gFind (itM nv nj z i2) nv nj)) _) (cwV 2 hts gX5_evens_X5_exchanges rfl rfl rfl cd_X5_exchanges ⟨Nat.le_of_ble_eq_true rfl, Nat.le_of_ble_eq_true rfl⟩) hK hP hD hS hA [0, 1, 2, 3, 4, 5, 6] [] rfl rfl (by decide) (by decide) (by decide) 0 rfl rfl rfl rfl hl.1 rfl (Nat.le_of_ble_eq_true rfl) dX5_evens_47 ⟨Nat.zero_le _, Nat.zero_le _⟩ (fun r _ H locs hr9 hP hD hS => ?_)
            subst hr9
            have hP : va_P G vwCl ((mdT cI q (uMs (gFind (itM nv nj z i2) nv nj) (gExch (kMs (gFind (itM nv nj z i2) nv nj)) nv nj (kMsj (gFind (itM nv nj z i2) nv nj)) (kMso (gFind (itM nv nj z i2) nv nj))).2))) H := hP
            have hD : va_D A ((mdT cI q (uMs (gFind (itM nv nj z i2) nv nj) (gExch (kMs (gFind (itM nv nj z i2) nv nj)) nv nj (kMsj (gFind (itM nv nj z i2) nv nj)) (kMso (gFind (itM nv nj z i2) nv nj))).2))) := hD
            refine lv_istore_n (lv' := [(3, .int ((gExch (kMs (gFind (itM nv nj z i2) nv nj)) nv nj (kMsj (gFind (itM nv nj z i2) nv nj)) (kMso (gFind (itM nv nj z i2) nv nj))).1)), (2, .int (nI i2)), (0, .ref (q 0)), (1, .int p0)]) hx hb dX5_evens_50 rfl hl (by decide) rfl (fun ls hl => ?_)
            refine lv_iload_n hx hb dX5_evens_51 rfl (lv_at hl 1 rfl) ?_
            refine lv_iload_n hx hb dX5_evens_52 rfl (lv_at hl 0 rfl) ?_
            refine lv_if_ge (tgt := 60) hx hb dX5_evens_53 (by decide) (fun c_5 => ?_) (fun c_5 => ?_)
            · skip
              refine lv_iconst (v := 1) hx hb dX5_evens_60 (by decide) ?_
              refine lv_iadd hx hb dX5_evens_61 ?_
              refine lv_istore_n (lv' := [(2, .int ((nI i2) + 1)), (3, .int ((gExch (kMs (gFind (itM nv nj z i2) nv nj)) nv nj (kMsj (gFind (itM nv nj z i2) nv nj)) (kMso (gFind (itM nv nj z i2) nv nj))).1)), (0, .ref (q 0)), (1, .int p0)]) hx hb dX5_evens_62 rfl hl (by decide) rfl (fun ls hl => ?_)
              refine lv_goto (tgt := 2) hx hb dX5_evens_63 (by decide) ?_
              have e_6 : (nI (i2 + 1)) = ((nI i2) + 1) := nI_succ i2
              have e_7 : (itM nv nj z (i2 + 1)) = (uMs (gFind (itM nv nj z i2) nv nj) (gExch (kMs (gFind (itM nv nj z i2) nv nj)) nv nj (kMsj (gFind (itM nv nj z i2) nv nj)) (kMso (gFind (itM nv nj z i2) nv nj))).2) := by (show mStp nv nj _ = _); unfold mStp; simp only [tApp, eq_false c_4, eq_false (Ne.symm c_4), if_true, if_false, and_true, true_and, and_false, false_and, or_true, true_or, or_false, false_or, not_true_eq_false, not_false_eq_true, ne_eq, ite_true, ite_false]
              have y_8 : evF nv nj N z = ((evF nv nj (N - (i2 + 1)) (itM nv nj z (i2 + 1))).1 + (i2 + 1), (evF nv nj (N - (i2 + 1)) (itM nv nj z (i2 + 1))).2) := by
                have h8 : N - i2 = (N - (i2 + 1)) + 1 := by omega
                rw [hinv, h8, evF, if_pos c_3]
                show (_ + 1 + i2, _) = (_ + (i2 + 1), _)
                rw [Nat.add_assoc, Nat.add_comm 1 i2]
                rfl
              exact ih2 (i2 + 1) (by omega) (by omega) (by omega) y_8 (ev_ok hVi c_3).2 _ _ (by rw [e_7]; exact hP) (by rw [e_7]; exact hD) hS ls (by rw [e_6]; exact lv_sub hl [0, 2, 3] rfl)
            · skip
              have h9 := (ev_ok hVi c_3).1
              unfold tApp at h9
              rw [if_neg c_4] at h9
              exact absurd (Int32.not_le.mp c_5) h9
          · skip
            refine lv_aload_n hx hb dX5_evens_23 rfl (lv_at hl 1 rfl) ?_
            refine lv_aload_n hx hb dX5_evens_24 rfl (lv_at hl 1 rfl) ?_
            refine va_get (D := G) (ci := 5) (v := .int (kMsj (gFind (itM nv nj z i2) nv nj))) (C := RX5) (T := TX5) (N := 15) hx hb hts in_X5_evens_X5 hown hK.1 hP 0 rfl rfl 4 (by decide) (hts _ lk_X5_evens_2) (fun _ h9 => h9) rfl dX5_evens_25 ?_
            refine lv_aload_n hx hb dX5_evens_28 rfl (lv_at hl 1 rfl) ?_
            refine va_get (D := G) (ci := 5) (v := .int (kMsv (gFind (itM nv nj z i2) nv nj))) (C := RX5) (T := TX5) (N := 15) hx hb hts in_X5_evens_X5 hown hK.1 hP 0 rfl rfl 5 (by decide) (hts _ lk_X5_evens_3) (fun _ h9 => h9) rfl dX5_evens_29 ?_
            refine mcV (rest := []) (wr := []) ⟨hx, hb, hml, hown, hts⟩ (c_X5_moves l G cI cQ q (gFind (itM nv nj z i2) nv nj) nv nj (MI_of (gFind_s _ nv nj) hVi.1) (kMsj (gFind (itM nv nj z i2) nv nj)) (kMsv (gFind (itM nv nj z i2) nv nj)) _) (cwV 2 hts gX5_evens_X5_moves rfl rfl rfl cd_X5_moves ⟨Nat.le_of_ble_eq_true rfl, Nat.le_of_ble_eq_true rfl⟩) hK hP hD hS hA [0, 1, 2, 3, 4, 5, 6] [] rfl rfl (by decide) (by decide) (by decide) 0 rfl rfl rfl rfl hl.1 rfl (Nat.le_of_ble_eq_true rfl) dX5_evens_32 ⟨Nat.zero_le _, Nat.zero_le _⟩ (fun r _ H locs hr9 hP hD hS => ?_)
            subst hr9
            have hP : va_P G vwCl ((mdT cI q (uMs (gFind (itM nv nj z i2) nv nj) (gMoves (kMs (gFind (itM nv nj z i2) nv nj)) nv nj (kMsj (gFind (itM nv nj z i2) nv nj)) (kMsv (gFind (itM nv nj z i2) nv nj))).2))) H := hP
            have hD : va_D A ((mdT cI q (uMs (gFind (itM nv nj z i2) nv nj) (gMoves (kMs (gFind (itM nv nj z i2) nv nj)) nv nj (kMsj (gFind (itM nv nj z i2) nv nj)) (kMsv (gFind (itM nv nj z i2) nv nj))).2))) := hD
            refine lv_goto (tgt := 50) hx hb dX5_evens_35 (by decide) ?_
            refine lv_istore_n (lv' := [(3, .int ((gMoves (kMs (gFind (itM nv nj z i2) nv nj)) nv nj (kMsj (gFind (itM nv nj z i2) nv nj)) (kMsv (gFind (itM nv nj z i2) nv nj))).1)), (2, .int (nI i2)), (0, .ref (q 0)), (1, .int p0)]) hx hb dX5_evens_50 rfl hl (by decide) rfl (fun ls hl => ?_)
            refine lv_iload_n hx hb dX5_evens_51 rfl (lv_at hl 1 rfl) ?_
            refine lv_iload_n hx hb dX5_evens_52 rfl (lv_at hl 0 rfl) ?_
            refine lv_if_ge (tgt := 60) hx hb dX5_evens_53 (by decide) (fun c_9 => ?_) (fun c_9 => ?_)
            · skip
              refine lv_iconst (v := 1) hx hb dX5_evens_60 (by decide) ?_
              refine lv_iadd hx hb dX5_evens_61 ?_
              refine lv_istore_n (lv' := [(2, .int ((nI i2) + 1)), (3, .int ((gMoves (kMs (gFind (itM nv nj z i2) nv nj)) nv nj (kMsj (gFind (itM nv nj z i2) nv nj)) (kMsv (gFind (itM nv nj z i2) nv nj))).1)), (0, .ref (q 0)), (1, .int p0)]) hx hb dX5_evens_62 rfl hl (by decide) rfl (fun ls hl => ?_)
              refine lv_goto (tgt := 2) hx hb dX5_evens_63 (by decide) ?_
              have e_10 : (nI (i2 + 1)) = ((nI i2) + 1) := nI_succ i2
              have e_11 : (itM nv nj z (i2 + 1)) = (uMs (gFind (itM nv nj z i2) nv nj) (gMoves (kMs (gFind (itM nv nj z i2) nv nj)) nv nj (kMsj (gFind (itM nv nj z i2) nv nj)) (kMsv (gFind (itM nv nj z i2) nv nj))).2) := by (show mStp nv nj _ = _); unfold mStp; simp only [tApp, eq_true c_4, eq_true (Eq.symm c_4), if_true, if_false, and_true, true_and, and_false, false_and, or_true, true_or, or_false, false_or, not_true_eq_false, not_false_eq_true, ne_eq, ite_true, ite_false]
              have y_12 : evF nv nj N z = ((evF nv nj (N - (i2 + 1)) (itM nv nj z (i2 + 1))).1 + (i2 + 1), (evF nv nj (N - (i2 + 1)) (itM nv nj z (i2 + 1))).2) := by
                have h8 : N - i2 = (N - (i2 + 1)) + 1 := by omega
                rw [hinv, h8, evF, if_pos c_3]
                show (_ + 1 + i2, _) = (_ + (i2 + 1), _)
                rw [Nat.add_assoc, Nat.add_comm 1 i2]
                rfl
              exact ih2 (i2 + 1) (by omega) (by omega) (by omega) y_12 (ev_ok hVi c_3).2 _ _ (by rw [e_11]; exact hP) (by rw [e_11]; exact hD) hS ls (by rw [e_10]; exact lv_sub hl [0, 2, 3] rfl)
            · skip
              have h9 := (ev_ok hVi c_3).1
              unfold tApp at h9
              rw [if_pos c_4] at h9
              exact absurd (Int32.not_le.mp c_9) h9
  have e_13 : (nI 0) = 0 := by first | rfl | decide
  have e_14 : (itM nv nj z 0) = z := by rfl
  exact L2 (N + 1) 0 (by omega) (by omega) (by omega) (by rw [Nat.sub_zero]; rfl) hV _ _ (by rw [e_14]; exact hP) (by rw [e_14]; exact hD) hS ls (by rw [e_13]; exact lv_sub hl [0, 1, 2] rfl)
theorem cd_X5_evens : yX5_evens.cls = RX5 ∧ yX5_evens.cls ≠ "java/lang/invoke/MethodHandle" ∧ yX5_evens.cls ≠ "java/lang/invoke/VarHandle" ∧ (parseMethodDescriptor yX5_evens.desc).map (fun d => d.parameters.length) = some 1 := by decide +kernel
-- X5_evensBy
set_option maxHeartbeats 4000000 in
set_option maxRecDepth 100000 in
theorem c_X5_evensBy (l : Launch) (G : va_G) (cI cQ : ClassId) (q : Nat → Nat) (z : MS) (nv nj : Nat) (p0 : Int32) (hV : mV (kMs z) nv nj) (sz0 : Nat) : Met l yX5_evensBy wsX5_evensBy ({ frames := 8, cells := 0, slots := 0, locals := 171 } : Room) (mPc G cI cQ [.ref (q 0), .int p0] ((mdT cI q z)) sz0) (va_Qi (fun (r : Int32) (_ : Unit) => r = (gEvB z nv nj p0).1) (mB G (va_A ((mdT cI q z)) sz0) (fun _ => (mdT cI q (gEvB z nv nj p0).2))) (va_A ((mdT cI q z)) sz0)) 0 0 (va_A ((mdT cI q z)) sz0) := by
  refine mm_of (cc := cX5_evensBy) (maxL := 2) (ret := (some .int)) (own := RX5) (by decide) rfl rfl (Nat.le_of_ble_eq_true rfl) rfl ?_
  intro p e s m below meth cd ls A hx hb hr hts hown hlocks hml hA hK hP hD hS hl
  refine lv_iload_n hx hb dX5_evensBy_0 rfl (lv_at hl 1 rfl) ?_
  refine lv_iconst (v := 1) hx hb dX5_evensBy_1 (by decide) ?_
  refine lv_bipush (v := 30) hx hb dX5_evensBy_2 (by decide) ?_
  refine pcS (rest := []) ⟨hx, hb, hml, hown, hts⟩ (c_X5_in l G cI cQ p0 1 30) (cwS 3 hts gX5_evensBy_X5_in rfl rfl rfl cd_X5_in ⟨Nat.le_of_ble_eq_true rfl, Nat.le_of_ble_eq_true rfl⟩) hK hP [] rfl rfl hl.1 rfl (Nat.le_of_ble_eq_true rfl) dX5_evensBy_4 ⟨Nat.zero_le _, Nat.zero_le _⟩ ?_
  refine lv_if_eq (tgt := 18) hx hb dX5_evensBy_7 (by decide) (fun c_1 => ?_) (fun c_1 => ?_)
  · skip
    have c_1 := bI_0.mp c_1
    refine lv_iconst (v := (-1)) hx hb dX5_evensBy_18 (by decide) ?_
    exact m_ret () hx hb hr hlocks rfl (by first | rfl | (simp only [gEvB, eq_false c_1, if_true, if_false, and_true, true_and, and_false, false_and, or_true, true_or, or_false, false_or, not_true_eq_false, not_false_eq_true, ne_eq, ite_true, ite_false]; done) | (simp only [gEvB, eq_false c_1, if_true, if_false, and_true, true_and, and_false, false_and, or_true, true_or, or_false, false_or, not_true_eq_false, not_false_eq_true, ne_eq, ite_true, ite_false]; rfl)) (by rw [show (gEvB z nv nj p0).2 = z from by first | rfl | (simp only [gEvB, eq_false c_1, if_true, if_false, and_true, true_and, and_false, false_and, or_true, true_or, or_false, false_or, not_true_eq_false, not_false_eq_true, ne_eq, ite_true, ite_false]; done) | (simp only [gEvB, eq_false c_1, if_true, if_false, and_true, true_and, and_false, false_and, or_true, true_or, or_false, false_or, not_true_eq_false, not_false_eq_true, ne_eq, ite_true, ite_false]; rfl)]; exact hP) (by rw [show (gEvB z nv nj p0).2 = z from by first | rfl | (simp only [gEvB, eq_false c_1, if_true, if_false, and_true, true_and, and_false, false_and, or_true, true_or, or_false, false_or, not_true_eq_false, not_false_eq_true, ne_eq, ite_true, ite_false]; done) | (simp only [gEvB, eq_false c_1, if_true, if_false, and_true, true_and, and_false, false_and, or_true, true_or, or_false, false_or, not_true_eq_false, not_false_eq_true, ne_eq, ite_true, ite_false]; rfl)]; exact hD) hS dX5_evensBy_19
  · skip
    have c_1 := bI_n0.mp c_1
    refine lv_aload_n hx hb dX5_evensBy_10 rfl (lv_at hl 0 rfl) ?_
    refine lv_iload_n hx hb dX5_evensBy_11 rfl (lv_at hl 1 rfl) ?_
    have hN9 := in_steps c_1
    refine mcV (rest := []) (wr := []) ⟨hx, hb, hml, hown, hts⟩ (c_X5_evens l G cI cQ q z nv nj p0 p0.toNatClampNeg hN9.1 hN9.2 hV _) (cwV 1 hts gX5_evensBy_X5_evens rfl rfl rfl cd_X5_evens ⟨Nat.le_of_ble_eq_true rfl, Nat.le_of_ble_eq_true rfl⟩) hK hP hD hS hA [0, 1, 2, 3, 4, 5, 6] [] rfl rfl (by decide) (by decide) (by decide) 0 rfl rfl rfl rfl hl.1 rfl (Nat.le_of_ble_eq_true rfl) dX5_evensBy_12 ⟨Nat.zero_le _, Nat.zero_le _⟩ (fun r _ H locs hr9 hP hD hS => ?_)
    subst hr9
    have hP : va_P G vwCl ((mdT cI q ((evF nv nj p0.toNatClampNeg z).2))) H := hP
    have hD : va_D A ((mdT cI q ((evF nv nj p0.toNatClampNeg z).2))) := hD
    refine lv_goto (tgt := 19) hx hb dX5_evensBy_15 (by decide) ?_
    exact m_ret () hx hb hr hlocks rfl (by first | rfl | (simp only [gEvB, eq_true c_1, if_true, if_false, and_true, true_and, and_false, false_and, or_true, true_or, or_false, false_or, not_true_eq_false, not_false_eq_true, ne_eq, ite_true, ite_false]; done) | (simp only [gEvB, eq_true c_1, if_true, if_false, and_true, true_and, and_false, false_and, or_true, true_or, or_false, false_or, not_true_eq_false, not_false_eq_true, ne_eq, ite_true, ite_false]; rfl)) (by rw [show (gEvB z nv nj p0).2 = ((evF nv nj p0.toNatClampNeg z).2) from by first | rfl | (simp only [gEvB, eq_true c_1, if_true, if_false, and_true, true_and, and_false, false_and, or_true, true_or, or_false, false_or, not_true_eq_false, not_false_eq_true, ne_eq, ite_true, ite_false]; done) | (simp only [gEvB, eq_true c_1, if_true, if_false, and_true, true_and, and_false, false_and, or_true, true_or, or_false, false_or, not_true_eq_false, not_false_eq_true, ne_eq, ite_true, ite_false]; rfl)]; exact hP) (by rw [show (gEvB z nv nj p0).2 = ((evF nv nj p0.toNatClampNeg z).2) from by first | rfl | (simp only [gEvB, eq_true c_1, if_true, if_false, and_true, true_and, and_false, false_and, or_true, true_or, or_false, false_or, not_true_eq_false, not_false_eq_true, ne_eq, ite_true, ite_false]; done) | (simp only [gEvB, eq_true c_1, if_true, if_false, and_true, true_and, and_false, false_and, or_true, true_or, or_false, false_or, not_true_eq_false, not_false_eq_true, ne_eq, ite_true, ite_false]; rfl)]; exact hD) hS dX5_evensBy_19
theorem cd_X5_evensBy : yX5_evensBy.cls = RX5 ∧ yX5_evensBy.cls ≠ "java/lang/invoke/MethodHandle" ∧ yX5_evensBy.cls ≠ "java/lang/invoke/VarHandle" ∧ (parseMethodDescriptor yX5_evensBy.desc).map (fun d => d.parameters.length) = some 1 := by decide +kernel
-- X5_even
set_option maxHeartbeats 4000000 in
set_option maxRecDepth 100000 in
theorem c_X5_even (l : Launch) (G : va_G) (cI cQ : ClassId) (q : Nat → Nat) (z : MS) (nv nj : Nat) (p0 : Int32) (hV : mV (kMs z) nv nj) (hk0 : kMkept z ≤ 5) (sz0 : Nat) : Met l yX5_even wsX5_even ({ frames := 9, cells := 0, slots := 0, locals := 192 } : Room) (mPc G cI cQ [.ref (q 0), .int p0] ((mdT cI q z)) sz0) (va_Qi (fun (r : Int32) (_ : Unit) => r = (gEvB (uMbef z (kMs z)) nv nj p0).1) (mB G (va_A ((mdT cI q z)) sz0) (fun _ => (mdT cI q (gActed (gEvB (uMbef z (kMs z)) nv nj p0).2 (gEvB (uMbef z (kMs z)) nv nj p0).1)))) (va_A ((mdT cI q z)) sz0)) 0 0 (va_A ((mdT cI q z)) sz0) := by
  refine mm_of (cc := cX5_even) (maxL := 2) (ret := (some .int)) (own := RX5) (by decide) rfl rfl (Nat.le_of_ble_eq_true rfl) rfl ?_
  intro p e s m below meth cd ls A hx hb hr hts hown hlocks hml hA hK hP hD hS hl
  refine lv_aload_n hx hb dX5_even_0 rfl (lv_at hl 0 rfl) ?_
  refine mcVv (rest := []) (wr := []) ⟨hx, hb, hml, hown, hts⟩ (c_X5_aside l G cI cQ q z _) (cwV 0 hts gX5_even_X5_aside rfl rfl rfl cd_X5_aside ⟨Nat.le_of_ble_eq_true rfl, Nat.le_of_ble_eq_true rfl⟩) hK hP hD hS hA [0, 1, 2, 3, 4, 5, 6] [] rfl rfl (by decide) (by decide) (by decide) 0 rfl rfl rfl rfl hl.1 rfl (Nat.le_of_ble_eq_true rfl) dX5_even_1 ⟨Nat.zero_le _, Nat.zero_le _⟩ (fun _ H locs _ hP hD hS => ?_)
  have hP : va_P G vwCl ((mdT cI q (uMbef z (kMs z)))) H := hP
  have hD : va_D A ((mdT cI q (uMbef z (kMs z)))) := hD
  refine lv_aload_n hx hb dX5_even_4 rfl (lv_at hl 0 rfl) ?_
  refine lv_aload_n hx hb dX5_even_5 rfl (lv_at hl 0 rfl) ?_
  refine lv_iload_n hx hb dX5_even_6 rfl (lv_at hl 1 rfl) ?_
  refine mcV (rest := [.ref (q 0)]) (wr := []) ⟨hx, hb, hml, hown, hts⟩ (c_X5_evensBy l G cI cQ q (uMbef z (kMs z)) nv nj p0 hV _) (cwV 1 hts gX5_even_X5_evensBy rfl rfl rfl cd_X5_evensBy ⟨Nat.le_of_ble_eq_true rfl, Nat.le_of_ble_eq_true rfl⟩) hK hP hD hS hA [0, 1, 2, 3, 4, 5, 6] [] rfl rfl (by decide) (by decide) (by decide) 0 rfl rfl rfl rfl hl.1 rfl (Nat.le_of_ble_eq_true rfl) dX5_even_7 ⟨Nat.zero_le _, Nat.zero_le _⟩ (fun r _ H locs hr9 hP hD hS => ?_)
  subst hr9
  have hP : va_P G vwCl ((mdT cI q ((gEvB (uMbef z (kMs z)) nv nj p0).2))) H := hP
  have hD : va_D A ((mdT cI q ((gEvB (uMbef z (kMs z)) nv nj p0).2))) := hD
  have hk : kMkept (gEvB (uMbef z (kMs z)) nv nj p0).2 ≤ 5 := by rw [(gEvB_rest (uMbef z (kMs z)) nv nj p0).2.2.1]; exact hk0
  refine mcV (rest := []) (wr := []) ⟨hx, hb, hml, hown, hts⟩ (c_X5_acted l G cI cQ q ((gEvB (uMbef z (kMs z)) nv nj p0).2) hk ((gEvB (uMbef z (kMs z)) nv nj p0).1) _) (cwV 1 hts gX5_even_X5_acted rfl rfl rfl cd_X5_acted ⟨Nat.le_of_ble_eq_true rfl, Nat.le_of_ble_eq_true rfl⟩) hK hP hD hS hA [0, 1, 2, 3, 4, 5, 6] [] rfl rfl (by decide) (by decide) (by decide) 0 rfl rfl rfl rfl hl.1 rfl (Nat.le_of_ble_eq_true rfl) dX5_even_10 ⟨Nat.zero_le _, Nat.zero_le _⟩ (fun r _ H locs hr9 hP hD hS => ?_)
  subst hr9
  have hP : va_P G vwCl ((mdT cI q (gActed ((gEvB (uMbef z (kMs z)) nv nj p0).2) ((gEvB (uMbef z (kMs z)) nv nj p0).1)))) H := hP
  have hD : va_D A ((mdT cI q (gActed ((gEvB (uMbef z (kMs z)) nv nj p0).2) ((gEvB (uMbef z (kMs z)) nv nj p0).1)))) := hD
  exact m_ret () hx hb hr hlocks rfl (by first | rfl | (simp only [if_true, if_false, and_true, true_and, and_false, false_and, or_true, true_or, or_false, false_or, not_true_eq_false, not_false_eq_true, ne_eq, ite_true, ite_false]; done) | (simp only [if_true, if_false, and_true, true_and, and_false, false_and, or_true, true_or, or_false, false_or, not_true_eq_false, not_false_eq_true, ne_eq, ite_true, ite_false]; rfl)) (by rw [show (gActed (gEvB (uMbef z (kMs z)) nv nj p0).2 (gEvB (uMbef z (kMs z)) nv nj p0).1) = (gActed ((gEvB (uMbef z (kMs z)) nv nj p0).2) ((gEvB (uMbef z (kMs z)) nv nj p0).1)) from by first | rfl | (simp only [if_true, if_false, and_true, true_and, and_false, false_and, or_true, true_or, or_false, false_or, not_true_eq_false, not_false_eq_true, ne_eq, ite_true, ite_false]; done) | (simp only [if_true, if_false, and_true, true_and, and_false, false_and, or_true, true_or, or_false, false_or, not_true_eq_false, not_false_eq_true, ne_eq, ite_true, ite_false]; rfl)]; exact hP) (by rw [show (gActed (gEvB (uMbef z (kMs z)) nv nj p0).2 (gEvB (uMbef z (kMs z)) nv nj p0).1) = (gActed ((gEvB (uMbef z (kMs z)) nv nj p0).2) ((gEvB (uMbef z (kMs z)) nv nj p0).1)) from by first | rfl | (simp only [if_true, if_false, and_true, true_and, and_false, false_and, or_true, true_or, or_false, false_or, not_true_eq_false, not_false_eq_true, ne_eq, ite_true, ite_false]; done) | (simp only [if_true, if_false, and_true, true_and, and_false, false_and, or_true, true_or, or_false, false_or, not_true_eq_false, not_false_eq_true, ne_eq, ite_true, ite_false]; rfl)]; exact hD) hS dX5_even_13
theorem cd_X5_even : yX5_even.cls = RX5 ∧ yX5_even.cls ≠ "java/lang/invoke/MethodHandle" ∧ yX5_even.cls ≠ "java/lang/invoke/VarHandle" ∧ (parseMethodDescriptor yX5_even.desc).map (fun d => d.parameters.length) = some 1 := by decide +kernel
-- X5_plan
theorem lk_X5_plan_1 : Cond.fieldLink RX5 7 "EvenLoadsModel" "s" "[I" ∈ wsX5_plan := List.mem_of_getElem? (i := 1) (by decide +kernel)
theorem lk_X5_plan_2 : Cond.fieldLink RX5 16 "EvenLoadsModel" "before" "[I" ∈ wsX5_plan := List.mem_of_getElem? (i := 2) (by decide +kernel)
theorem in_X5_plan_X5 : ∀ w ∈ wsX50, w ∈ wsX5_plan := by decide +kernel
set_option maxHeartbeats 4000000 in
set_option maxRecDepth 100000 in
theorem c_X5_plan (l : Launch) (G : va_G) (cI cQ : ClassId) (q : Nat → Nat) (z : MS) (nv nj : Nat) (p0 : Int32) (hV : mV (kMs z) nv nj) (sz0 : Nat) : Met l yX5_plan wsX5_plan ({ frames := 8, cells := 0, slots := 0, locals := 171 } : Room) (mPc G cI cQ [.ref (q 0), .int p0] ((mdT cI q z)) sz0) (va_Qi (fun (r : Int32) (_ : Unit) => r = (rMPlan z nv nj p0)) (mB G (va_A ((mdT cI q z)) sz0) (fun _ => (mdT cI q (gMPlan z nv nj p0)))) (va_A ((mdT cI q z)) sz0)) 0 0 (va_A ((mdT cI q z)) sz0) := by
  refine mm_of (cc := cX5_plan) (maxL := 4) (ret := (some .int)) (own := RX5) (by decide) rfl rfl (Nat.le_of_ble_eq_true rfl) rfl ?_
  intro p e s m below meth cd ls A hx hb hr hts hown hlocks hml hA hK hP hD hS hl
  refine lv_iload_n hx hb dX5_plan_0 rfl (lv_at hl 1 rfl) ?_
  refine lv_iconst (v := 0) hx hb dX5_plan_1 (by decide) ?_
  refine lv_iconst (v := 4) hx hb dX5_plan_2 (by decide) ?_
  refine pcS (rest := []) ⟨hx, hb, hml, hown, hts⟩ (c_X5_in l G cI cQ p0 0 4) (cwS 3 hts gX5_plan_X5_in rfl rfl rfl cd_X5_in ⟨Nat.le_of_ble_eq_true rfl, Nat.le_of_ble_eq_true rfl⟩) hK hP [] rfl rfl hl.1 rfl (Nat.le_of_ble_eq_true rfl) dX5_plan_3 ⟨Nat.zero_le _, Nat.zero_le _⟩ ?_
  refine lv_if_ne (tgt := 11) hx hb dX5_plan_6 (by decide) (fun c_1 => ?_) (fun c_1 => ?_)
  · skip
    have c_1 := bI_n0.mp c_1
    refine lv_aload_n hx hb dX5_plan_11 rfl (lv_at hl 0 rfl) ?_
    refine mcVv (rest := []) (wr := []) ⟨hx, hb, hml, hown, hts⟩ (c_X5_aside l G cI cQ q z _) (cwV 0 hts gX5_plan_X5_aside rfl rfl rfl cd_X5_aside ⟨Nat.le_of_ble_eq_true rfl, Nat.le_of_ble_eq_true rfl⟩) hK hP hD hS hA [0, 1, 2, 3, 4, 5, 6] [] rfl rfl (by decide) (by decide) (by decide) 0 rfl rfl rfl rfl hl.1 rfl (Nat.le_of_ble_eq_true rfl) dX5_plan_12 ⟨Nat.zero_le _, Nat.zero_le _⟩ (fun _ H locs _ hP hD hS => ?_)
    have hP : va_P G vwCl ((mdT cI q (uMbef z (kMs z)))) H := hP
    have hD : va_D A ((mdT cI q (uMbef z (kMs z)))) := hD
    refine lv_aload_n hx hb dX5_plan_15 rfl (lv_at hl 0 rfl) ?_
    refine lv_bipush (v := 30) hx hb dX5_plan_16 (by decide) ?_
    refine mcV (rest := []) (wr := []) ⟨hx, hb, hml, hown, hts⟩ (c_X5_evens l G cI cQ q (uMbef z (kMs z)) nv nj 30 30 (by decide) rfl hV _) (cwV 1 hts gX5_plan_X5_evens rfl rfl rfl cd_X5_evens ⟨Nat.le_of_ble_eq_true rfl, Nat.le_of_ble_eq_true rfl⟩) hK hP hD hS hA [0, 1, 2, 3, 4, 5, 6] [] rfl rfl (by decide) (by decide) (by decide) 0 rfl rfl rfl rfl hl.1 rfl (Nat.le_of_ble_eq_true rfl) dX5_plan_18 ⟨Nat.zero_le _, Nat.zero_le _⟩ (fun r _ H locs hr9 hP hD hS => ?_)
    subst hr9
    have hP : va_P G vwCl ((mdT cI q ((evF nv nj 30 (uMbef z (kMs z))).2))) H := hP
    have hD : va_D A ((mdT cI q ((evF nv nj 30 (uMbef z (kMs z))).2))) := hD
    refine lv_istore_n (lv' := [(2, .int (nI (evF nv nj 30 (uMbef z (kMs z))).1)), (0, .ref (q 0)), (1, .int p0)]) hx hb dX5_plan_21 rfl hl (by decide) rfl (fun ls hl => ?_)
    refine lv_iload_n hx hb dX5_plan_22 rfl (lv_at hl 2 rfl) ?_
    refine lv_if_ne (tgt := 30) hx hb dX5_plan_23 (by decide) (fun c_2 => ?_) (fun c_2 => ?_)
    · skip
      refine lv_iload_n hx hb dX5_plan_30 rfl (lv_at hl 2 rfl) ?_
      refine lv_iconst (v := 1) hx hb dX5_plan_31 (by decide) ?_
      refine lv_icmp_ne (tgt := 51) hx hb dX5_plan_32 (by decide) (fun c_3 => ?_) (fun c_3 => ?_)
      · skip
        refine lv_iload_n hx hb dX5_plan_51 rfl (lv_at hl 2 rfl) ?_
        refine lv_iconst (v := 2) hx hb dX5_plan_52 (by decide) ?_
        refine lv_icmp_ne (tgt := 72) hx hb dX5_plan_53 (by decide) (fun c_4 => ?_) (fun c_4 => ?_)
        · skip
          refine lv_iload_n hx hb dX5_plan_72 rfl (lv_at hl 2 rfl) ?_
          refine lv_iconst (v := 3) hx hb dX5_plan_73 (by decide) ?_
          refine lv_icmp_ne (tgt := 84) hx hb dX5_plan_74 (by decide) (fun c_5 => ?_) (fun c_5 => ?_)
          · skip
            refine lv_aload_n hx hb dX5_plan_84 rfl (lv_at hl 1 rfl) ?_
            refine pcV (rest := []) ⟨hx, hb, hml, hown, hts⟩ (c_X5_areEven l G cI cQ q ((evF nv nj 30 (uMbef z (kMs z))).2) nv nj (evF_mV nv nj 30 (uMbef z (kMs z)) hV).1) (cwV 0 hts gX5_plan_X5_areEven rfl rfl rfl cd_X5_areEven ⟨Nat.le_of_ble_eq_true rfl, Nat.le_of_ble_eq_true rfl⟩) hK hP [0, 1, 2, 3, 4, 5, 6] rfl 0 rfl rfl rfl rfl hl.1 rfl (Nat.le_of_ble_eq_true rfl) dX5_plan_85 ⟨Nat.zero_le _, Nat.zero_le _⟩ ?_
            refine lv_if_eq (tgt := 95) hx hb dX5_plan_88 (by decide) (fun c_6 => ?_) (fun c_6 => ?_)
            · skip
              have c_6 := bI_0.mp c_6
              refine lv_iconst (v := 0) hx hb dX5_plan_95 (by decide) ?_
              refine lv_istore_n (lv' := [(3, .int 0), (2, .int (nI (evF nv nj 30 (uMbef z (kMs z))).1)), (0, .ref (q 0)), (1, .int p0)]) hx hb dX5_plan_96 rfl hl (by decide) rfl (fun ls hl => ?_)
              refine lv_aload_n hx hb dX5_plan_97 rfl (lv_at hl 2 rfl) ?_
              refine mcVv (rest := []) (wr := []) ⟨hx, hb, hml, hown, hts⟩ (c_X5_layBack l G cI cQ q ((evF nv nj 30 (uMbef z (kMs z))).2) _) (cwV 0 hts gX5_plan_X5_layBack rfl rfl rfl cd_X5_layBack ⟨Nat.le_of_ble_eq_true rfl, Nat.le_of_ble_eq_true rfl⟩) hK hP hD hS hA [0, 1, 2, 3, 4, 5, 6] [] rfl rfl (by decide) (by decide) (by decide) 0 rfl rfl rfl rfl hl.1 rfl (Nat.le_of_ble_eq_true rfl) dX5_plan_98 ⟨Nat.zero_le _, Nat.zero_le _⟩ (fun _ H locs _ hP hD hS => ?_)
              have hP : va_P G vwCl ((mdT cI q (uMs ((evF nv nj 30 (uMbef z (kMs z))).2) (kMbef ((evF nv nj 30 (uMbef z (kMs z))).2))))) H := hP
              have hD : va_D A ((mdT cI q (uMs ((evF nv nj 30 (uMbef z (kMs z))).2) (kMbef ((evF nv nj 30 (uMbef z (kMs z))).2))))) := hD
              refine lv_iload_n hx hb dX5_plan_101 rfl (lv_at hl 0 rfl) ?_
              exact m_ret () hx hb hr hlocks rfl (by first | rfl | (simp only [rMPlan, gMPlan, eq_true c_1, eq_false c_2, eq_false (Ne.symm c_2), eq_false c_3, eq_false (Ne.symm c_3), eq_false c_4, eq_false (Ne.symm c_4), eq_false c_5, eq_false (Ne.symm c_5), eq_false c_6, if_true, if_false, and_true, true_and, and_false, false_and, or_true, true_or, or_false, false_or, not_true_eq_false, not_false_eq_true, ne_eq, ite_true, ite_false]; done) | (simp only [rMPlan, gMPlan, eq_true c_1, eq_false c_2, eq_false (Ne.symm c_2), eq_false c_3, eq_false (Ne.symm c_3), eq_false c_4, eq_false (Ne.symm c_4), eq_false c_5, eq_false (Ne.symm c_5), eq_false c_6, if_true, if_false, and_true, true_and, and_false, false_and, or_true, true_or, or_false, false_or, not_true_eq_false, not_false_eq_true, ne_eq, ite_true, ite_false]; rfl)) (by rw [show (gMPlan z nv nj p0) = (uMs ((evF nv nj 30 (uMbef z (kMs z))).2) (kMbef ((evF nv nj 30 (uMbef z (kMs z))).2))) from by first | rfl | (simp only [rMPlan, gMPlan, eq_true c_1, eq_false c_2, eq_false (Ne.symm c_2), eq_false c_3, eq_false (Ne.symm c_3), eq_false c_4, eq_false (Ne.symm c_4), eq_false c_5, eq_false (Ne.symm c_5), eq_false c_6, if_true, if_false, and_true, true_and, and_false, false_and, or_true, true_or, or_false, false_or, not_true_eq_false, not_false_eq_true, ne_eq, ite_true, ite_false]; done) | (simp only [rMPlan, gMPlan, eq_true c_1, eq_false c_2, eq_false (Ne.symm c_2), eq_false c_3, eq_false (Ne.symm c_3), eq_false c_4, eq_false (Ne.symm c_4), eq_false c_5, eq_false (Ne.symm c_5), eq_false c_6, if_true, if_false, and_true, true_and, and_false, false_and, or_true, true_or, or_false, false_or, not_true_eq_false, not_false_eq_true, ne_eq, ite_true, ite_false]; rfl)]; exact hP) (by rw [show (gMPlan z nv nj p0) = (uMs ((evF nv nj 30 (uMbef z (kMs z))).2) (kMbef ((evF nv nj 30 (uMbef z (kMs z))).2))) from by first | rfl | (simp only [rMPlan, gMPlan, eq_true c_1, eq_false c_2, eq_false (Ne.symm c_2), eq_false c_3, eq_false (Ne.symm c_3), eq_false c_4, eq_false (Ne.symm c_4), eq_false c_5, eq_false (Ne.symm c_5), eq_false c_6, if_true, if_false, and_true, true_and, and_false, false_and, or_true, true_or, or_false, false_or, not_true_eq_false, not_false_eq_true, ne_eq, ite_true, ite_false]; done) | (simp only [rMPlan, gMPlan, eq_true c_1, eq_false c_2, eq_false (Ne.symm c_2), eq_false c_3, eq_false (Ne.symm c_3), eq_false c_4, eq_false (Ne.symm c_4), eq_false c_5, eq_false (Ne.symm c_5), eq_false c_6, if_true, if_false, and_true, true_and, and_false, false_and, or_true, true_or, or_false, false_or, not_true_eq_false, not_false_eq_true, ne_eq, ite_true, ite_false]; rfl)]; exact hD) hS dX5_plan_102
            · skip
              have c_6 := bI_n0.mp c_6
              refine lv_iconst (v := 1) hx hb dX5_plan_91 (by decide) ?_
              refine lv_goto (tgt := 96) hx hb dX5_plan_92 (by decide) ?_
              refine lv_istore_n (lv' := [(3, .int 1), (2, .int (nI (evF nv nj 30 (uMbef z (kMs z))).1)), (0, .ref (q 0)), (1, .int p0)]) hx hb dX5_plan_96 rfl hl (by decide) rfl (fun ls hl => ?_)
              refine lv_aload_n hx hb dX5_plan_97 rfl (lv_at hl 2 rfl) ?_
              refine mcVv (rest := []) (wr := []) ⟨hx, hb, hml, hown, hts⟩ (c_X5_layBack l G cI cQ q ((evF nv nj 30 (uMbef z (kMs z))).2) _) (cwV 0 hts gX5_plan_X5_layBack rfl rfl rfl cd_X5_layBack ⟨Nat.le_of_ble_eq_true rfl, Nat.le_of_ble_eq_true rfl⟩) hK hP hD hS hA [0, 1, 2, 3, 4, 5, 6] [] rfl rfl (by decide) (by decide) (by decide) 0 rfl rfl rfl rfl hl.1 rfl (Nat.le_of_ble_eq_true rfl) dX5_plan_98 ⟨Nat.zero_le _, Nat.zero_le _⟩ (fun _ H locs _ hP hD hS => ?_)
              have hP : va_P G vwCl ((mdT cI q (uMs ((evF nv nj 30 (uMbef z (kMs z))).2) (kMbef ((evF nv nj 30 (uMbef z (kMs z))).2))))) H := hP
              have hD : va_D A ((mdT cI q (uMs ((evF nv nj 30 (uMbef z (kMs z))).2) (kMbef ((evF nv nj 30 (uMbef z (kMs z))).2))))) := hD
              refine lv_iload_n hx hb dX5_plan_101 rfl (lv_at hl 0 rfl) ?_
              exact m_ret () hx hb hr hlocks rfl (by first | rfl | (simp only [rMPlan, gMPlan, eq_true c_1, eq_false c_2, eq_false (Ne.symm c_2), eq_false c_3, eq_false (Ne.symm c_3), eq_false c_4, eq_false (Ne.symm c_4), eq_false c_5, eq_false (Ne.symm c_5), eq_true c_6, if_true, if_false, and_true, true_and, and_false, false_and, or_true, true_or, or_false, false_or, not_true_eq_false, not_false_eq_true, ne_eq, ite_true, ite_false]; done) | (simp only [rMPlan, gMPlan, eq_true c_1, eq_false c_2, eq_false (Ne.symm c_2), eq_false c_3, eq_false (Ne.symm c_3), eq_false c_4, eq_false (Ne.symm c_4), eq_false c_5, eq_false (Ne.symm c_5), eq_true c_6, if_true, if_false, and_true, true_and, and_false, false_and, or_true, true_or, or_false, false_or, not_true_eq_false, not_false_eq_true, ne_eq, ite_true, ite_false]; rfl)) (by rw [show (gMPlan z nv nj p0) = (uMs ((evF nv nj 30 (uMbef z (kMs z))).2) (kMbef ((evF nv nj 30 (uMbef z (kMs z))).2))) from by first | rfl | (simp only [rMPlan, gMPlan, eq_true c_1, eq_false c_2, eq_false (Ne.symm c_2), eq_false c_3, eq_false (Ne.symm c_3), eq_false c_4, eq_false (Ne.symm c_4), eq_false c_5, eq_false (Ne.symm c_5), eq_true c_6, if_true, if_false, and_true, true_and, and_false, false_and, or_true, true_or, or_false, false_or, not_true_eq_false, not_false_eq_true, ne_eq, ite_true, ite_false]; done) | (simp only [rMPlan, gMPlan, eq_true c_1, eq_false c_2, eq_false (Ne.symm c_2), eq_false c_3, eq_false (Ne.symm c_3), eq_false c_4, eq_false (Ne.symm c_4), eq_false c_5, eq_false (Ne.symm c_5), eq_true c_6, if_true, if_false, and_true, true_and, and_false, false_and, or_true, true_or, or_false, false_or, not_true_eq_false, not_false_eq_true, ne_eq, ite_true, ite_false]; rfl)]; exact hP) (by rw [show (gMPlan z nv nj p0) = (uMs ((evF nv nj 30 (uMbef z (kMs z))).2) (kMbef ((evF nv nj 30 (uMbef z (kMs z))).2))) from by first | rfl | (simp only [rMPlan, gMPlan, eq_true c_1, eq_false c_2, eq_false (Ne.symm c_2), eq_false c_3, eq_false (Ne.symm c_3), eq_false c_4, eq_false (Ne.symm c_4), eq_false c_5, eq_false (Ne.symm c_5), eq_true c_6, if_true, if_false, and_true, true_and, and_false, false_and, or_true, true_or, or_false, false_or, not_true_eq_false, not_false_eq_true, ne_eq, ite_true, ite_false]; done) | (simp only [rMPlan, gMPlan, eq_true c_1, eq_false c_2, eq_false (Ne.symm c_2), eq_false c_3, eq_false (Ne.symm c_3), eq_false c_4, eq_false (Ne.symm c_4), eq_false c_5, eq_false (Ne.symm c_5), eq_true c_6, if_true, if_false, and_true, true_and, and_false, false_and, or_true, true_or, or_false, false_or, not_true_eq_false, not_false_eq_true, ne_eq, ite_true, ite_false]; rfl)]; exact hD) hS dX5_plan_102
          · skip
            refine lv_aload_n hx hb dX5_plan_77 rfl (lv_at hl 1 rfl) ?_
            refine pcV (rest := []) ⟨hx, hb, hml, hown, hts⟩ (c_X5_greatest l G cI cQ q ((evF nv nj 30 (uMbef z (kMs z))).2) nv nj (evF_mV nv nj 30 (uMbef z (kMs z)) hV).1) (cwV 0 hts gX5_plan_X5_greatest rfl rfl rfl cd_X5_greatest ⟨Nat.le_of_ble_eq_true rfl, Nat.le_of_ble_eq_true rfl⟩) hK hP [0, 1, 2, 3, 4, 5, 6] rfl 0 rfl rfl rfl rfl hl.1 rfl (Nat.le_of_ble_eq_true rfl) dX5_plan_78 ⟨Nat.zero_le _, Nat.zero_le _⟩ ?_
            refine lv_goto (tgt := 96) hx hb dX5_plan_81 (by decide) ?_
            refine lv_istore_n (lv' := [(3, .int (mGreat (kMs ((evF nv nj 30 (uMbef z (kMs z))).2)) nv nj)), (2, .int (nI (evF nv nj 30 (uMbef z (kMs z))).1)), (0, .ref (q 0)), (1, .int p0)]) hx hb dX5_plan_96 rfl hl (by decide) rfl (fun ls hl => ?_)
            refine lv_aload_n hx hb dX5_plan_97 rfl (lv_at hl 2 rfl) ?_
            refine mcVv (rest := []) (wr := []) ⟨hx, hb, hml, hown, hts⟩ (c_X5_layBack l G cI cQ q ((evF nv nj 30 (uMbef z (kMs z))).2) _) (cwV 0 hts gX5_plan_X5_layBack rfl rfl rfl cd_X5_layBack ⟨Nat.le_of_ble_eq_true rfl, Nat.le_of_ble_eq_true rfl⟩) hK hP hD hS hA [0, 1, 2, 3, 4, 5, 6] [] rfl rfl (by decide) (by decide) (by decide) 0 rfl rfl rfl rfl hl.1 rfl (Nat.le_of_ble_eq_true rfl) dX5_plan_98 ⟨Nat.zero_le _, Nat.zero_le _⟩ (fun _ H locs _ hP hD hS => ?_)
            have hP : va_P G vwCl ((mdT cI q (uMs ((evF nv nj 30 (uMbef z (kMs z))).2) (kMbef ((evF nv nj 30 (uMbef z (kMs z))).2))))) H := hP
            have hD : va_D A ((mdT cI q (uMs ((evF nv nj 30 (uMbef z (kMs z))).2) (kMbef ((evF nv nj 30 (uMbef z (kMs z))).2))))) := hD
            refine lv_iload_n hx hb dX5_plan_101 rfl (lv_at hl 0 rfl) ?_
            exact m_ret () hx hb hr hlocks rfl (by first | rfl | (simp only [rMPlan, gMPlan, eq_true c_1, eq_false c_2, eq_false (Ne.symm c_2), eq_false c_3, eq_false (Ne.symm c_3), eq_false c_4, eq_false (Ne.symm c_4), eq_true c_5, eq_true (Eq.symm c_5), if_true, if_false, and_true, true_and, and_false, false_and, or_true, true_or, or_false, false_or, not_true_eq_false, not_false_eq_true, ne_eq, ite_true, ite_false]; done) | (simp only [rMPlan, gMPlan, eq_true c_1, eq_false c_2, eq_false (Ne.symm c_2), eq_false c_3, eq_false (Ne.symm c_3), eq_false c_4, eq_false (Ne.symm c_4), eq_true c_5, eq_true (Eq.symm c_5), if_true, if_false, and_true, true_and, and_false, false_and, or_true, true_or, or_false, false_or, not_true_eq_false, not_false_eq_true, ne_eq, ite_true, ite_false]; rfl)) (by rw [show (gMPlan z nv nj p0) = (uMs ((evF nv nj 30 (uMbef z (kMs z))).2) (kMbef ((evF nv nj 30 (uMbef z (kMs z))).2))) from by first | rfl | (simp only [rMPlan, gMPlan, eq_true c_1, eq_false c_2, eq_false (Ne.symm c_2), eq_false c_3, eq_false (Ne.symm c_3), eq_false c_4, eq_false (Ne.symm c_4), eq_true c_5, eq_true (Eq.symm c_5), if_true, if_false, and_true, true_and, and_false, false_and, or_true, true_or, or_false, false_or, not_true_eq_false, not_false_eq_true, ne_eq, ite_true, ite_false]; done) | (simp only [rMPlan, gMPlan, eq_true c_1, eq_false c_2, eq_false (Ne.symm c_2), eq_false c_3, eq_false (Ne.symm c_3), eq_false c_4, eq_false (Ne.symm c_4), eq_true c_5, eq_true (Eq.symm c_5), if_true, if_false, and_true, true_and, and_false, false_and, or_true, true_or, or_false, false_or, not_true_eq_false, not_false_eq_true, ne_eq, ite_true, ite_false]; rfl)]; exact hP) (by rw [show (gMPlan z nv nj p0) = (uMs ((evF nv nj 30 (uMbef z (kMs z))).2) (kMbef ((evF nv nj 30 (uMbef z (kMs z))).2))) from by first | rfl | (simp only [rMPlan, gMPlan, eq_true c_1, eq_false c_2, eq_false (Ne.symm c_2), eq_false c_3, eq_false (Ne.symm c_3), eq_false c_4, eq_false (Ne.symm c_4), eq_true c_5, eq_true (Eq.symm c_5), if_true, if_false, and_true, true_and, and_false, false_and, or_true, true_or, or_false, false_or, not_true_eq_false, not_false_eq_true, ne_eq, ite_true, ite_false]; done) | (simp only [rMPlan, gMPlan, eq_true c_1, eq_false c_2, eq_false (Ne.symm c_2), eq_false c_3, eq_false (Ne.symm c_3), eq_false c_4, eq_false (Ne.symm c_4), eq_true c_5, eq_true (Eq.symm c_5), if_true, if_false, and_true, true_and, and_false, false_and, or_true, true_or, or_false, false_or, not_true_eq_false, not_false_eq_true, ne_eq, ite_true, ite_false]; rfl)]; exact hD) hS dX5_plan_102
        · skip
          refine lv_aload_n hx hb dX5_plan_56 rfl (lv_at hl 1 rfl) ?_
          refine va_get (D := G) (ci := 5) (v := .ref (q 3)) (C := RX5) (T := TX5) (N := 15) hx hb hts in_X5_plan_X5 hown hK.1 hP 0 rfl rfl 2 (by decide) (hts _ lk_X5_plan_2) (fun _ h9 => h9) rfl dX5_plan_57 ?_
          refine lv_iconst (v := 3) hx hb dX5_plan_60 (by decide) ?_
          refine iald_n hx hb hK hP 3 rfl 3 rfl (by decide) (by decide) dX5_plan_61 ?_
          refine lv_aload_n hx hb dX5_plan_62 rfl (lv_at hl 1 rfl) ?_
          refine va_get (D := G) (ci := 5) (v := .ref (q 1)) (C := RX5) (T := TX5) (N := 15) hx hb hts in_X5_plan_X5 hown hK.1 hP 0 rfl rfl 0 (by decide) (hts _ lk_X5_plan_1) (fun _ h9 => h9) rfl dX5_plan_63 ?_
          refine lv_iconst (v := 3) hx hb dX5_plan_66 (by decide) ?_
          refine iald_n hx hb hK hP 1 rfl 3 rfl (by decide) (by decide) dX5_plan_67 ?_
          refine lv_isub hx hb dX5_plan_68 ?_
          refine lv_goto (tgt := 96) hx hb dX5_plan_69 (by decide) ?_
          refine lv_istore_n (lv' := [(3, .int (((kMbef ((evF nv nj 30 (uMbef z (kMs z))).2)) 3) - ((kMs ((evF nv nj 30 (uMbef z (kMs z))).2)) 3))), (2, .int (nI (evF nv nj 30 (uMbef z (kMs z))).1)), (0, .ref (q 0)), (1, .int p0)]) hx hb dX5_plan_96 rfl hl (by decide) rfl (fun ls hl => ?_)
          refine lv_aload_n hx hb dX5_plan_97 rfl (lv_at hl 2 rfl) ?_
          refine mcVv (rest := []) (wr := []) ⟨hx, hb, hml, hown, hts⟩ (c_X5_layBack l G cI cQ q ((evF nv nj 30 (uMbef z (kMs z))).2) _) (cwV 0 hts gX5_plan_X5_layBack rfl rfl rfl cd_X5_layBack ⟨Nat.le_of_ble_eq_true rfl, Nat.le_of_ble_eq_true rfl⟩) hK hP hD hS hA [0, 1, 2, 3, 4, 5, 6] [] rfl rfl (by decide) (by decide) (by decide) 0 rfl rfl rfl rfl hl.1 rfl (Nat.le_of_ble_eq_true rfl) dX5_plan_98 ⟨Nat.zero_le _, Nat.zero_le _⟩ (fun _ H locs _ hP hD hS => ?_)
          have hP : va_P G vwCl ((mdT cI q (uMs ((evF nv nj 30 (uMbef z (kMs z))).2) (kMbef ((evF nv nj 30 (uMbef z (kMs z))).2))))) H := hP
          have hD : va_D A ((mdT cI q (uMs ((evF nv nj 30 (uMbef z (kMs z))).2) (kMbef ((evF nv nj 30 (uMbef z (kMs z))).2))))) := hD
          refine lv_iload_n hx hb dX5_plan_101 rfl (lv_at hl 0 rfl) ?_
          exact m_ret () hx hb hr hlocks rfl (by first | rfl | (simp only [rMPlan, gMPlan, eq_true c_1, eq_false c_2, eq_false (Ne.symm c_2), eq_false c_3, eq_false (Ne.symm c_3), eq_true c_4, eq_true (Eq.symm c_4), if_true, if_false, and_true, true_and, and_false, false_and, or_true, true_or, or_false, false_or, not_true_eq_false, not_false_eq_true, ne_eq, ite_true, ite_false]; done) | (simp only [rMPlan, gMPlan, eq_true c_1, eq_false c_2, eq_false (Ne.symm c_2), eq_false c_3, eq_false (Ne.symm c_3), eq_true c_4, eq_true (Eq.symm c_4), if_true, if_false, and_true, true_and, and_false, false_and, or_true, true_or, or_false, false_or, not_true_eq_false, not_false_eq_true, ne_eq, ite_true, ite_false]; rfl)) (by rw [show (gMPlan z nv nj p0) = (uMs ((evF nv nj 30 (uMbef z (kMs z))).2) (kMbef ((evF nv nj 30 (uMbef z (kMs z))).2))) from by first | rfl | (simp only [rMPlan, gMPlan, eq_true c_1, eq_false c_2, eq_false (Ne.symm c_2), eq_false c_3, eq_false (Ne.symm c_3), eq_true c_4, eq_true (Eq.symm c_4), if_true, if_false, and_true, true_and, and_false, false_and, or_true, true_or, or_false, false_or, not_true_eq_false, not_false_eq_true, ne_eq, ite_true, ite_false]; done) | (simp only [rMPlan, gMPlan, eq_true c_1, eq_false c_2, eq_false (Ne.symm c_2), eq_false c_3, eq_false (Ne.symm c_3), eq_true c_4, eq_true (Eq.symm c_4), if_true, if_false, and_true, true_and, and_false, false_and, or_true, true_or, or_false, false_or, not_true_eq_false, not_false_eq_true, ne_eq, ite_true, ite_false]; rfl)]; exact hP) (by rw [show (gMPlan z nv nj p0) = (uMs ((evF nv nj 30 (uMbef z (kMs z))).2) (kMbef ((evF nv nj 30 (uMbef z (kMs z))).2))) from by first | rfl | (simp only [rMPlan, gMPlan, eq_true c_1, eq_false c_2, eq_false (Ne.symm c_2), eq_false c_3, eq_false (Ne.symm c_3), eq_true c_4, eq_true (Eq.symm c_4), if_true, if_false, and_true, true_and, and_false, false_and, or_true, true_or, or_false, false_or, not_true_eq_false, not_false_eq_true, ne_eq, ite_true, ite_false]; done) | (simp only [rMPlan, gMPlan, eq_true c_1, eq_false c_2, eq_false (Ne.symm c_2), eq_false c_3, eq_false (Ne.symm c_3), eq_true c_4, eq_true (Eq.symm c_4), if_true, if_false, and_true, true_and, and_false, false_and, or_true, true_or, or_false, false_or, not_true_eq_false, not_false_eq_true, ne_eq, ite_true, ite_false]; rfl)]; exact hD) hS dX5_plan_102
      · skip
        refine lv_aload_n hx hb dX5_plan_35 rfl (lv_at hl 1 rfl) ?_
        refine va_get (D := G) (ci := 5) (v := .ref (q 1)) (C := RX5) (T := TX5) (N := 15) hx hb hts in_X5_plan_X5 hown hK.1 hP 0 rfl rfl 0 (by decide) (hts _ lk_X5_plan_1) (fun _ h9 => h9) rfl dX5_plan_36 ?_
        refine lv_iconst (v := 5) hx hb dX5_plan_39 (by decide) ?_
        refine iald_n hx hb hK hP 1 rfl 5 rfl (by decide) (by decide) dX5_plan_40 ?_
        refine lv_aload_n hx hb dX5_plan_41 rfl (lv_at hl 1 rfl) ?_
        refine va_get (D := G) (ci := 5) (v := .ref (q 3)) (C := RX5) (T := TX5) (N := 15) hx hb hts in_X5_plan_X5 hown hK.1 hP 0 rfl rfl 2 (by decide) (hts _ lk_X5_plan_2) (fun _ h9 => h9) rfl dX5_plan_42 ?_
        refine lv_iconst (v := 5) hx hb dX5_plan_45 (by decide) ?_
        refine iald_n hx hb hK hP 3 rfl 5 rfl (by decide) (by decide) dX5_plan_46 ?_
        refine lv_isub hx hb dX5_plan_47 ?_
        refine lv_goto (tgt := 96) hx hb dX5_plan_48 (by decide) ?_
        refine lv_istore_n (lv' := [(3, .int (((kMs ((evF nv nj 30 (uMbef z (kMs z))).2)) 5) - ((kMbef ((evF nv nj 30 (uMbef z (kMs z))).2)) 5))), (2, .int (nI (evF nv nj 30 (uMbef z (kMs z))).1)), (0, .ref (q 0)), (1, .int p0)]) hx hb dX5_plan_96 rfl hl (by decide) rfl (fun ls hl => ?_)
        refine lv_aload_n hx hb dX5_plan_97 rfl (lv_at hl 2 rfl) ?_
        refine mcVv (rest := []) (wr := []) ⟨hx, hb, hml, hown, hts⟩ (c_X5_layBack l G cI cQ q ((evF nv nj 30 (uMbef z (kMs z))).2) _) (cwV 0 hts gX5_plan_X5_layBack rfl rfl rfl cd_X5_layBack ⟨Nat.le_of_ble_eq_true rfl, Nat.le_of_ble_eq_true rfl⟩) hK hP hD hS hA [0, 1, 2, 3, 4, 5, 6] [] rfl rfl (by decide) (by decide) (by decide) 0 rfl rfl rfl rfl hl.1 rfl (Nat.le_of_ble_eq_true rfl) dX5_plan_98 ⟨Nat.zero_le _, Nat.zero_le _⟩ (fun _ H locs _ hP hD hS => ?_)
        have hP : va_P G vwCl ((mdT cI q (uMs ((evF nv nj 30 (uMbef z (kMs z))).2) (kMbef ((evF nv nj 30 (uMbef z (kMs z))).2))))) H := hP
        have hD : va_D A ((mdT cI q (uMs ((evF nv nj 30 (uMbef z (kMs z))).2) (kMbef ((evF nv nj 30 (uMbef z (kMs z))).2))))) := hD
        refine lv_iload_n hx hb dX5_plan_101 rfl (lv_at hl 0 rfl) ?_
        exact m_ret () hx hb hr hlocks rfl (by first | rfl | (simp only [rMPlan, gMPlan, eq_true c_1, eq_false c_2, eq_false (Ne.symm c_2), eq_true c_3, eq_true (Eq.symm c_3), if_true, if_false, and_true, true_and, and_false, false_and, or_true, true_or, or_false, false_or, not_true_eq_false, not_false_eq_true, ne_eq, ite_true, ite_false]; done) | (simp only [rMPlan, gMPlan, eq_true c_1, eq_false c_2, eq_false (Ne.symm c_2), eq_true c_3, eq_true (Eq.symm c_3), if_true, if_false, and_true, true_and, and_false, false_and, or_true, true_or, or_false, false_or, not_true_eq_false, not_false_eq_true, ne_eq, ite_true, ite_false]; rfl)) (by rw [show (gMPlan z nv nj p0) = (uMs ((evF nv nj 30 (uMbef z (kMs z))).2) (kMbef ((evF nv nj 30 (uMbef z (kMs z))).2))) from by first | rfl | (simp only [rMPlan, gMPlan, eq_true c_1, eq_false c_2, eq_false (Ne.symm c_2), eq_true c_3, eq_true (Eq.symm c_3), if_true, if_false, and_true, true_and, and_false, false_and, or_true, true_or, or_false, false_or, not_true_eq_false, not_false_eq_true, ne_eq, ite_true, ite_false]; done) | (simp only [rMPlan, gMPlan, eq_true c_1, eq_false c_2, eq_false (Ne.symm c_2), eq_true c_3, eq_true (Eq.symm c_3), if_true, if_false, and_true, true_and, and_false, false_and, or_true, true_or, or_false, false_or, not_true_eq_false, not_false_eq_true, ne_eq, ite_true, ite_false]; rfl)]; exact hP) (by rw [show (gMPlan z nv nj p0) = (uMs ((evF nv nj 30 (uMbef z (kMs z))).2) (kMbef ((evF nv nj 30 (uMbef z (kMs z))).2))) from by first | rfl | (simp only [rMPlan, gMPlan, eq_true c_1, eq_false c_2, eq_false (Ne.symm c_2), eq_true c_3, eq_true (Eq.symm c_3), if_true, if_false, and_true, true_and, and_false, false_and, or_true, true_or, or_false, false_or, not_true_eq_false, not_false_eq_true, ne_eq, ite_true, ite_false]; done) | (simp only [rMPlan, gMPlan, eq_true c_1, eq_false c_2, eq_false (Ne.symm c_2), eq_true c_3, eq_true (Eq.symm c_3), if_true, if_false, and_true, true_and, and_false, false_and, or_true, true_or, or_false, false_or, not_true_eq_false, not_false_eq_true, ne_eq, ite_true, ite_false]; rfl)]; exact hD) hS dX5_plan_102
    · skip
      refine lv_iload_n hx hb dX5_plan_26 rfl (lv_at hl 0 rfl) ?_
      refine lv_goto (tgt := 96) hx hb dX5_plan_27 (by decide) ?_
      refine lv_istore_n (lv' := [(3, .int (nI (evF nv nj 30 (uMbef z (kMs z))).1)), (2, .int (nI (evF nv nj 30 (uMbef z (kMs z))).1)), (0, .ref (q 0)), (1, .int p0)]) hx hb dX5_plan_96 rfl hl (by decide) rfl (fun ls hl => ?_)
      refine lv_aload_n hx hb dX5_plan_97 rfl (lv_at hl 2 rfl) ?_
      refine mcVv (rest := []) (wr := []) ⟨hx, hb, hml, hown, hts⟩ (c_X5_layBack l G cI cQ q ((evF nv nj 30 (uMbef z (kMs z))).2) _) (cwV 0 hts gX5_plan_X5_layBack rfl rfl rfl cd_X5_layBack ⟨Nat.le_of_ble_eq_true rfl, Nat.le_of_ble_eq_true rfl⟩) hK hP hD hS hA [0, 1, 2, 3, 4, 5, 6] [] rfl rfl (by decide) (by decide) (by decide) 0 rfl rfl rfl rfl hl.1 rfl (Nat.le_of_ble_eq_true rfl) dX5_plan_98 ⟨Nat.zero_le _, Nat.zero_le _⟩ (fun _ H locs _ hP hD hS => ?_)
      have hP : va_P G vwCl ((mdT cI q (uMs ((evF nv nj 30 (uMbef z (kMs z))).2) (kMbef ((evF nv nj 30 (uMbef z (kMs z))).2))))) H := hP
      have hD : va_D A ((mdT cI q (uMs ((evF nv nj 30 (uMbef z (kMs z))).2) (kMbef ((evF nv nj 30 (uMbef z (kMs z))).2))))) := hD
      refine lv_iload_n hx hb dX5_plan_101 rfl (lv_at hl 0 rfl) ?_
      exact m_ret () hx hb hr hlocks rfl (by first | rfl | (simp only [rMPlan, gMPlan, eq_true c_1, eq_true c_2, eq_true (Eq.symm c_2), if_true, if_false, and_true, true_and, and_false, false_and, or_true, true_or, or_false, false_or, not_true_eq_false, not_false_eq_true, ne_eq, ite_true, ite_false]; done) | (simp only [rMPlan, gMPlan, eq_true c_1, eq_true c_2, eq_true (Eq.symm c_2), if_true, if_false, and_true, true_and, and_false, false_and, or_true, true_or, or_false, false_or, not_true_eq_false, not_false_eq_true, ne_eq, ite_true, ite_false]; rfl)) (by rw [show (gMPlan z nv nj p0) = (uMs ((evF nv nj 30 (uMbef z (kMs z))).2) (kMbef ((evF nv nj 30 (uMbef z (kMs z))).2))) from by first | rfl | (simp only [rMPlan, gMPlan, eq_true c_1, eq_true c_2, eq_true (Eq.symm c_2), if_true, if_false, and_true, true_and, and_false, false_and, or_true, true_or, or_false, false_or, not_true_eq_false, not_false_eq_true, ne_eq, ite_true, ite_false]; done) | (simp only [rMPlan, gMPlan, eq_true c_1, eq_true c_2, eq_true (Eq.symm c_2), if_true, if_false, and_true, true_and, and_false, false_and, or_true, true_or, or_false, false_or, not_true_eq_false, not_false_eq_true, ne_eq, ite_true, ite_false]; rfl)]; exact hP) (by rw [show (gMPlan z nv nj p0) = (uMs ((evF nv nj 30 (uMbef z (kMs z))).2) (kMbef ((evF nv nj 30 (uMbef z (kMs z))).2))) from by first | rfl | (simp only [rMPlan, gMPlan, eq_true c_1, eq_true c_2, eq_true (Eq.symm c_2), if_true, if_false, and_true, true_and, and_false, false_and, or_true, true_or, or_false, false_or, not_true_eq_false, not_false_eq_true, ne_eq, ite_true, ite_false]; done) | (simp only [rMPlan, gMPlan, eq_true c_1, eq_true c_2, eq_true (Eq.symm c_2), if_true, if_false, and_true, true_and, and_false, false_and, or_true, true_or, or_false, false_or, not_true_eq_false, not_false_eq_true, ne_eq, ite_true, ite_false]; rfl)]; exact hD) hS dX5_plan_102
  · skip
    have c_1 := bI_0.mp c_1
    refine lv_iconst (v := (-1)) hx hb dX5_plan_9 (by decide) ?_
    exact m_ret () hx hb hr hlocks rfl (by first | rfl | (simp only [rMPlan, gMPlan, eq_false c_1, if_true, if_false, and_true, true_and, and_false, false_and, or_true, true_or, or_false, false_or, not_true_eq_false, not_false_eq_true, ne_eq, ite_true, ite_false]; done) | (simp only [rMPlan, gMPlan, eq_false c_1, if_true, if_false, and_true, true_and, and_false, false_and, or_true, true_or, or_false, false_or, not_true_eq_false, not_false_eq_true, ne_eq, ite_true, ite_false]; rfl)) (by rw [show (gMPlan z nv nj p0) = z from by first | rfl | (simp only [rMPlan, gMPlan, eq_false c_1, if_true, if_false, and_true, true_and, and_false, false_and, or_true, true_or, or_false, false_or, not_true_eq_false, not_false_eq_true, ne_eq, ite_true, ite_false]; done) | (simp only [rMPlan, gMPlan, eq_false c_1, if_true, if_false, and_true, true_and, and_false, false_and, or_true, true_or, or_false, false_or, not_true_eq_false, not_false_eq_true, ne_eq, ite_true, ite_false]; rfl)]; exact hP) (by rw [show (gMPlan z nv nj p0) = z from by first | rfl | (simp only [rMPlan, gMPlan, eq_false c_1, if_true, if_false, and_true, true_and, and_false, false_and, or_true, true_or, or_false, false_or, not_true_eq_false, not_false_eq_true, ne_eq, ite_true, ite_false]; done) | (simp only [rMPlan, gMPlan, eq_false c_1, if_true, if_false, and_true, true_and, and_false, false_and, or_true, true_or, or_false, false_or, not_true_eq_false, not_false_eq_true, ne_eq, ite_true, ite_false]; rfl)]; exact hD) hS dX5_plan_10
theorem cd_X5_plan : yX5_plan.cls = RX5 ∧ yX5_plan.cls ≠ "java/lang/invoke/MethodHandle" ∧ yX5_plan.cls ≠ "java/lang/invoke/VarHandle" ∧ (parseMethodDescriptor yX5_plan.desc).map (fun d => d.parameters.length) = some 1 := by decide +kernel
