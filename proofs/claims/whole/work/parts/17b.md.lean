-- X5_empties
theorem lk_X5_empties_1 : Cond.fieldLink RX5 7 "EvenLoadsModel" "s" "[I" ∈ wsX5_empties := List.mem_of_getElem? (i := 1) (by decide +kernel)
theorem in_X5_empties_X5 : ∀ w ∈ wsX50, w ∈ wsX5_empties := by decide +kernel
set_option maxHeartbeats 4000000 in
set_option maxRecDepth 100000 in
theorem c_X5_empties (l : Launch) (G : va_G) (cI cQ : ClassId) (q : Nat → Nat) (z : MS) (nv nj : Nat) (hm : MI (kMs z) nv nj) (p0 : Int32) (hp : pHas nv p0) (sz0 : Nat) : Met l yX5_empties wsX5_empties ({ frames := 4, cells := 0, slots := 0, locals := 86 } : Room) (mPc G cI cQ [.ref (q 0), .int p0] ((mdT cI q z)) sz0) (va_Qi (fun (r : Int32) (_ : Unit) => r = (nI (emN (mShut (kMs z) p0) p0 nj))) (mB G (va_A ((mdT cI q z)) sz0) (fun _ => (mdT cI q (uMs z (mEmpties (kMs z) p0 nv nj))))) (va_A ((mdT cI q z)) sz0)) 0 0 (va_A ((mdT cI q z)) sz0) := by
  refine mm_of (cc := cX5_empties) (maxL := 4) (ret := (some .int)) (own := RX5) (by decide) rfl rfl (Nat.le_of_ble_eq_true rfl) rfl ?_
  intro p e s m below meth cd ls A hx hb hr hts hown hlocks hml hA hK hP hD hS hl
  refine lv_aload_n hx hb dX5_empties_0 rfl (lv_at hl 0 rfl) ?_
  refine va_get (D := G) (ci := 5) (v := .ref (q 1)) (C := RX5) (T := TX5) (N := 15) hx hb hts in_X5_empties_X5 hown hK.1 hP 0 rfl rfl 0 (by decide) (hts _ lk_X5_empties_1) (fun _ h9 => h9) rfl dX5_empties_1 ?_
  refine lv_iconst (v := 1) hx hb dX5_empties_4 (by decide) ?_
  refine lv_dup2_11 hx hb dX5_empties_5 rfl rfl ?_
  refine iald_n hx hb hK hP 1 rfl 1 rfl (by decide) (by decide) dX5_empties_6 ?_
  refine lv_iconst (v := 1) hx hb dX5_empties_7 (by decide) ?_
  refine lv_iload_n hx hb dX5_empties_8 rfl (lv_at hl 1 rfl) ?_
  refine lv_ishl hx hb dX5_empties_9 ?_
  refine lv_iconst (v := (-1)) hx hb dX5_empties_10 (by decide) ?_
  refine lv_ixor hx hb dX5_empties_11 ?_
  refine lv_iand hx hb dX5_empties_12 ?_
  refine iast_n hx hb hK hP hD hS 1 rfl 1 rfl (by decide) (by decide) dX5_empties_13 (fun H locs hP hD hS => ?_)
  have hP : va_P G vwCl ((mdT cI q (uMs z (upd (kMs z) 1 (((kMs z) 1) &&& ((1 <<< (p0 &&& 31)) ^^^ (-1))))))) H := hP
  have hD : va_D A ((mdT cI q (uMs z (upd (kMs z) 1 (((kMs z) 1) &&& ((1 <<< (p0 &&& 31)) ^^^ (-1))))))) := hD
  have hP : va_P G vwCl ((mdT cI q (uMs z (mShut (kMs z) p0)))) H := hP
  have hD : va_D A ((mdT cI q (uMs z (mShut (kMs z) p0)))) := hD
  have hmS : MI (mShut (kMs z) p0) nv nj := MI_upd 1 _ (by decide) (by decide) hm
  refine lv_iconst (v := 0) hx hb dX5_empties_14 (by decide) ?_
  refine lv_istore_n (lv' := [(2, .int 0), (0, .ref (q 0)), (1, .int p0)]) hx hb dX5_empties_15 rfl hl (by decide) rfl (fun ls hl => ?_)
  refine lv_aload_n hx hb dX5_empties_16 rfl (lv_at hl 1 rfl) ?_
  refine lv_iload_n hx hb dX5_empties_17 rfl (lv_at hl 2 rfl) ?_
  refine lv_iconst (v := 0) hx hb dX5_empties_18 (by decide) ?_
  refine pcV (rest := []) ⟨hx, hb, hml, hown, hts⟩ (c_X5_leaver l G cI cQ q (uMs z (mShut (kMs z) p0)) nv nj hmS p0 0) (cwV 2 hts gX5_empties_X5_leaver rfl rfl rfl cd_X5_leaver ⟨Nat.le_of_ble_eq_true rfl, Nat.le_of_ble_eq_true rfl⟩) hK hP [0, 1, 2, 3, 4, 5, 6] rfl 0 rfl rfl rfl rfl hl.1 rfl (Nat.le_of_ble_eq_true rfl) dX5_empties_19 ⟨Nat.zero_le _, Nat.zero_le _⟩ ?_
  refine lv_istore_n (lv' := [(3, .int (mLeaver (mShut (kMs z) p0) nj p0 0)), (2, .int 0), (0, .ref (q 0)), (1, .int p0)]) hx hb dX5_empties_22 rfl hl (by decide) rfl (fun ls hl => ?_)
  have L23 : ∀ (n23 i23 : Nat), 0 ≤ i23 → i23 ≤ emN (mShut (kMs z) p0) p0 nj → emN (mShut (kMs z) p0) p0 nj + 1 ≤ i23 + n23 → ∀ (H : Heap) (locs : List Loc), va_P G vwCl ((mdT cI q (uMs z (emS (mShut (kMs z) p0) p0 nv nj i23)))) H → va_D A ((mdT cI q (uMs z (emS (mShut (kMs z) p0) p0 nv nj i23)))) → va_S A s.heap H locs → ∀ (ls : Array Slot), lv_has ls 4 [(2, .int (nI i23)), (3, .int (mLeaver (emS (mShut (kMs z) p0) p0 nv nj i23) nj p0 0)), (0, .ref (q 0)), (1, .int p0)] → W p l e ({ frames := 4, cells := 0, slots := 0, locals := 86 } : Room) s m ([.ref (q 0), .int p0] : List Value).toArray below meth cd H locs 0 0 (MQ below (va_Qi (fun (r : Int32) (_ : Unit) => r = (nI (emN (mShut (kMs z) p0) p0 nj))) (mB G (A) (fun _ => (mdT cI q (uMs z (mEmpties (kMs z) p0 nv nj))))) (A)) ([.ref (q 0), .int p0] : List Value).toArray s 0 0 A) (F0 m 23 ls []) := by
    intro n23
    induction n23 with
    | zero => intro i23 h0 h1 h2; exact absurd h2 (by omega)
    | succ n23 ih23 =>
      intro i23 hlo23 hle23 hin23 H locs hP hD hS ls hl
      have hmS : MI (mShut (kMs z) p0) nv nj := MI_upd 1 _ (by decide) (by decide) hm
      have he23 := em_end hm.2.2.2 hp (shut_no (kMs z) hm.2.1 p0) hle23
      have hN23 : emN (mShut (kMs z) p0) p0 nj ≤ 24 := Nat.le_trans (mCnt_le _ _ _) hm.2.2.2
      refine lv_iload_n hx hb dX5_empties_23 rfl (lv_at hl 1 rfl) ?_
      refine lv_bipush (v := (-9)) hx hb dX5_empties_24 (by decide) ?_
      refine lv_icmp_eq (tgt := 51) hx hb dX5_empties_26 (by decide) (fun c_1 => ?_) (fun c_1 => ?_)
      · skip
        have q_2 : emN (mShut (kMs z) p0) p0 nj = i23 := (he23.mp c_1).symm
        subst q_2
        refine lv_iload_n hx hb dX5_empties_51 rfl (lv_at hl 0 rfl) ?_
        exact m_ret () hx hb hr hlocks rfl (by first | rfl | (simp only [mEmpties, if_true, if_false, and_true, true_and, and_false, false_and, or_true, true_or, or_false, false_or, not_true_eq_false, not_false_eq_true, ne_eq, ite_true, ite_false]; done) | (simp only [mEmpties, if_true, if_false, and_true, true_and, and_false, false_and, or_true, true_or, or_false, false_or, not_true_eq_false, not_false_eq_true, ne_eq, ite_true, ite_false]; rfl)) (by rw [show (uMs z (mEmpties (kMs z) p0 nv nj)) = (uMs z (emS (mShut (kMs z) p0) p0 nv nj (emN (mShut (kMs z) p0) p0 nj))) from by first | rfl | (simp only [mEmpties, if_true, if_false, and_true, true_and, and_false, false_and, or_true, true_or, or_false, false_or, not_true_eq_false, not_false_eq_true, ne_eq, ite_true, ite_false]; done) | (simp only [mEmpties, if_true, if_false, and_true, true_and, and_false, false_and, or_true, true_or, or_false, false_or, not_true_eq_false, not_false_eq_true, ne_eq, ite_true, ite_false]; rfl)]; exact hP) (by rw [show (uMs z (mEmpties (kMs z) p0 nv nj)) = (uMs z (emS (mShut (kMs z) p0) p0 nv nj (emN (mShut (kMs z) p0) p0 nj))) from by first | rfl | (simp only [mEmpties, if_true, if_false, and_true, true_and, and_false, false_and, or_true, true_or, or_false, false_or, not_true_eq_false, not_false_eq_true, ne_eq, ite_true, ite_false]; done) | (simp only [mEmpties, if_true, if_false, and_true, true_and, and_false, false_and, or_true, true_or, or_false, false_or, not_true_eq_false, not_false_eq_true, ne_eq, ite_true, ite_false]; rfl)]; exact hD) hS dX5_empties_52
      · skip
        have hlt23 : i23 < emN (mShut (kMs z) p0) p0 nj := by rcases Nat.lt_or_ge i23 (emN (mShut (kMs z) p0) p0 nj) with q | q; exact q; exact absurd (he23.mpr (Nat.le_antisymm hle23 q)) c_1
        refine lv_aload_n hx hb dX5_empties_29 rfl (lv_at hl 2 rfl) ?_
        refine lv_iload_n hx hb dX5_empties_30 rfl (lv_at hl 1 rfl) ?_
        refine lv_aload_n hx hb dX5_empties_31 rfl (lv_at hl 2 rfl) ?_
        refine pcV (rest := [.int (mLeaver (emS (mShut (kMs z) p0) p0 nv nj i23) nj p0 0), .ref (q 0)]) ⟨hx, hb, hml, hown, hts⟩ (c_X5_emptiest l G cI cQ q (uMs z (emS (mShut (kMs z) p0) p0 nv nj i23)) nv nj (MI_em hmS i23)) (cwV 0 hts gX5_empties_X5_emptiest rfl rfl rfl cd_X5_emptiest ⟨Nat.le_of_ble_eq_true rfl, Nat.le_of_ble_eq_true rfl⟩) hK hP [0, 1, 2, 3, 4, 5, 6] rfl 0 rfl rfl rfl rfl hl.1 rfl (Nat.le_of_ble_eq_true rfl) dX5_empties_32 ⟨Nat.zero_le _, Nat.zero_le _⟩ ?_
        refine mcVv (rest := []) (wr := []) ⟨hx, hb, hml, hown, hts⟩ (c_X5_goes l G cI cQ q (uMs z (emS (mShut (kMs z) p0) p0 nv nj i23)) nv nj (MI_em hmS i23) (mLeaver (emS (mShut (kMs z) p0) p0 nv nj i23) nj p0 0) (mEmpty (emS (mShut (kMs z) p0) p0 nv nj i23) nv nj) (mlF_vp hm.2.2.2 c_1) _) (cwV 2 hts gX5_empties_X5_goes rfl rfl rfl cd_X5_goes ⟨Nat.le_of_ble_eq_true rfl, Nat.le_of_ble_eq_true rfl⟩) hK hP hD hS hA [0, 1, 2, 3, 4, 5, 6] [] rfl rfl (by decide) (by decide) (by decide) 0 rfl rfl rfl rfl hl.1 rfl (Nat.le_of_ble_eq_true rfl) dX5_empties_35 ⟨Nat.zero_le _, Nat.zero_le _⟩ (fun _ H locs _ hP hD hS => ?_)
        have hP : va_P G vwCl ((mdT cI q (uMs z (mGoes (emS (mShut (kMs z) p0) p0 nv nj i23) (mLeaver (emS (mShut (kMs z) p0) p0 nv nj i23) nj p0 0) (mEmpty (emS (mShut (kMs z) p0) p0 nv nj i23) nv nj))))) H := hP
        have hD : va_D A ((mdT cI q (uMs z (mGoes (emS (mShut (kMs z) p0) p0 nv nj i23) (mLeaver (emS (mShut (kMs z) p0) p0 nv nj i23) nj p0 0) (mEmpty (emS (mShut (kMs z) p0) p0 nv nj i23) nv nj))))) := hD
        refine lv_iinc (v := (nI (i23 + 1))) (lv' := [(2, .int (nI (i23 + 1))), (3, .int (mLeaver (emS (mShut (kMs z) p0) p0 nv nj i23) nj p0 0)), (0, .ref (q 0)), (1, .int p0)]) hx hb dX5_empties_38 hl (k := 0) rfl (nI_1 i23) (by decide) rfl (fun ls hl => ?_)
        refine lv_aload_n hx hb dX5_empties_41 rfl (lv_at hl 2 rfl) ?_
        refine lv_iload_n hx hb dX5_empties_42 rfl (lv_at hl 3 rfl) ?_
        refine lv_iconst (v := 0) hx hb dX5_empties_43 (by decide) ?_
        refine pcV (rest := []) ⟨hx, hb, hml, hown, hts⟩ (c_X5_leaver l G cI cQ q (uMs z (mGoes (emS (mShut (kMs z) p0) p0 nv nj i23) (mLeaver (emS (mShut (kMs z) p0) p0 nv nj i23) nj p0 0) (mEmpty (emS (mShut (kMs z) p0) p0 nv nj i23) nv nj))) nv nj (MI_goes (mLeaver (emS (mShut (kMs z) p0) p0 nv nj i23) nj p0 0) (mEmpty (emS (mShut (kMs z) p0) p0 nv nj i23) nv nj) (MI_em hmS i23)) p0 0) (cwV 2 hts gX5_empties_X5_leaver rfl rfl rfl cd_X5_leaver ⟨Nat.le_of_ble_eq_true rfl, Nat.le_of_ble_eq_true rfl⟩) hK hP [0, 1, 2, 3, 4, 5, 6] rfl 0 rfl rfl rfl rfl hl.1 rfl (Nat.le_of_ble_eq_true rfl) dX5_empties_44 ⟨Nat.zero_le _, Nat.zero_le _⟩ ?_
        refine lv_istore_n (lv' := [(3, .int (mLeaver (mGoes (emS (mShut (kMs z) p0) p0 nv nj i23) (mLeaver (emS (mShut (kMs z) p0) p0 nv nj i23) nj p0 0) (mEmpty (emS (mShut (kMs z) p0) p0 nv nj i23) nv nj)) nj p0 0)), (2, .int (nI (i23 + 1))), (0, .ref (q 0)), (1, .int p0)]) hx hb dX5_empties_47 rfl hl (by decide) rfl (fun ls hl => ?_)
        refine lv_goto (tgt := 23) hx hb dX5_empties_48 (by decide) ?_
        have e_3 : (mLeaver (emS (mShut (kMs z) p0) p0 nv nj (i23 + 1)) nj p0 0) = (mLeaver (mGoes (emS (mShut (kMs z) p0) p0 nv nj i23) (mLeaver (emS (mShut (kMs z) p0) p0 nv nj i23) nj p0 0) (mEmpty (emS (mShut (kMs z) p0) p0 nv nj i23) nv nj)) nj p0 0) := by first | rfl | (simp only [mEmpties, eq_false c_1, eq_false (Ne.symm c_1), if_true, if_false, and_true, true_and, and_false, false_and, or_true, true_or, or_false, false_or, not_true_eq_false, not_false_eq_true, ne_eq, ite_true, ite_false]; done) | (simp only [mEmpties, eq_false c_1, eq_false (Ne.symm c_1), if_true, if_false, and_true, true_and, and_false, false_and, or_true, true_or, or_false, false_or, not_true_eq_false, not_false_eq_true, ne_eq, ite_true, ite_false]; rfl)
        have e_4 : (emS (mShut (kMs z) p0) p0 nv nj (i23 + 1)) = (mGoes (emS (mShut (kMs z) p0) p0 nv nj i23) (mLeaver (emS (mShut (kMs z) p0) p0 nv nj i23) nj p0 0) (mEmpty (emS (mShut (kMs z) p0) p0 nv nj i23) nv nj)) := by first | rfl | (simp only [mEmpties, eq_false c_1, eq_false (Ne.symm c_1), if_true, if_false, and_true, true_and, and_false, false_and, or_true, true_or, or_false, false_or, not_true_eq_false, not_false_eq_true, ne_eq, ite_true, ite_false]; done) | (simp only [mEmpties, eq_false c_1, eq_false (Ne.symm c_1), if_true, if_false, and_true, true_and, and_false, false_and, or_true, true_or, or_false, false_or, not_true_eq_false, not_false_eq_true, ne_eq, ite_true, ite_false]; rfl)
        exact ih23 (i23 + 1) (by omega) (by omega) (by omega) _ _ (by rw [e_4]; exact hP) (by rw [e_4]; exact hD) hS ls (by rw [e_3]; exact lv_sub hl [1, 0, 2, 3] rfl)
  have e_5 : (nI 0) = 0 := by first | rfl | decide
  have e_6 : (mLeaver (emS (mShut (kMs z) p0) p0 nv nj 0) nj p0 0) = (mLeaver (mShut (kMs z) p0) nj p0 0) := by first | rfl | (simp only [mEmpties, if_true, if_false, and_true, true_and, and_false, false_and, or_true, true_or, or_false, false_or, not_true_eq_false, not_false_eq_true, ne_eq, ite_true, ite_false]; done) | (simp only [mEmpties, if_true, if_false, and_true, true_and, and_false, false_and, or_true, true_or, or_false, false_or, not_true_eq_false, not_false_eq_true, ne_eq, ite_true, ite_false]; rfl)
  have e_7 : (emS (mShut (kMs z) p0) p0 nv nj 0) = (mShut (kMs z) p0) := by first | rfl | (simp only [mEmpties, if_true, if_false, and_true, true_and, and_false, false_and, or_true, true_or, or_false, false_or, not_true_eq_false, not_false_eq_true, ne_eq, ite_true, ite_false]; done) | (simp only [mEmpties, if_true, if_false, and_true, true_and, and_false, false_and, or_true, true_or, or_false, false_or, not_true_eq_false, not_false_eq_true, ne_eq, ite_true, ite_false]; rfl)
  exact L23 (emN (mShut (kMs z) p0) p0 nj + 1) 0 (by omega) (by omega) (by omega) _ _ (by rw [e_7]; exact hP) (by rw [e_7]; exact hD) hS ls (by rw [e_5]; rw [e_6]; exact lv_sub hl [1, 0, 2, 3] rfl)
theorem cd_X5_empties : yX5_empties.cls = RX5 ∧ yX5_empties.cls ≠ "java/lang/invoke/MethodHandle" ∧ yX5_empties.cls ≠ "java/lang/invoke/VarHandle" ∧ (parseMethodDescriptor yX5_empties.desc).map (fun d => d.parameters.length) = some 1 := by decide +kernel
-- X5_closes
theorem lk_X5_closes_1 : Cond.fieldLink RX5 7 "EvenLoadsModel" "s" "[I" ∈ wsX5_closes := List.mem_of_getElem? (i := 1) (by decide +kernel)
theorem in_X5_closes_X5 : ∀ w ∈ wsX50, w ∈ wsX5_closes := by decide +kernel
set_option maxHeartbeats 4000000 in
set_option maxRecDepth 100000 in
theorem c_X5_closes (l : Launch) (G : va_G) (cI cQ : ClassId) (q : Nat → Nat) (z : MS) (nv nj : Nat) (hm : MI (kMs z) nv nj) (p0 : Int32) (sz0 : Nat) : Met l yX5_closes wsX5_closes ({ frames := 5, cells := 0, slots := 0, locals := 109 } : Room) (mPc G cI cQ [.ref (q 0), .int p0] ((mdT cI q z)) sz0) (va_Qi (fun (r : Int32) (_ : Unit) => r = (gCloses (kMs z) nv nj p0).1) (mB G (va_A ((mdT cI q z)) sz0) (fun _ => (mdT cI q (uMs z (gCloses (kMs z) nv nj p0).2)))) (va_A ((mdT cI q z)) sz0)) 0 0 (va_A ((mdT cI q z)) sz0) := by
  refine mm_of (cc := cX5_closes) (maxL := 4) (ret := (some .int)) (own := RX5) (by decide) rfl rfl (Nat.le_of_ble_eq_true rfl) rfl ?_
  intro p e s m below meth cd ls A hx hb hr hts hown hlocks hml hA hK hP hD hS hl
  refine lv_aload_n hx hb dX5_closes_0 rfl (lv_at hl 0 rfl) ?_
  refine lv_iload_n hx hb dX5_closes_1 rfl (lv_at hl 1 rfl) ?_
  refine pcV (rest := []) ⟨hx, hb, hml, hown, hts⟩ (c_X5_isServer l G cI cQ q z nv nj hm p0) (cwV 1 hts gX5_closes_X5_isServer rfl rfl rfl cd_X5_isServer ⟨Nat.le_of_ble_eq_true rfl, Nat.le_of_ble_eq_true rfl⟩) hK hP [0, 1, 2, 3, 4, 5, 6] rfl 0 rfl rfl rfl rfl hl.1 rfl (Nat.le_of_ble_eq_true rfl) dX5_closes_2 ⟨Nat.zero_le _, Nat.zero_le _⟩ ?_
  refine lv_if_ne (tgt := 10) hx hb dX5_closes_5 (by decide) (fun c_1 => ?_) (fun c_1 => ?_)
  · skip
    have c_1 := bI_n0.mp c_1
    refine lv_iconst (v := 0) hx hb dX5_closes_10 (by decide) ?_
    refine lv_istore_n (lv' := [(2, .int 0), (0, .ref (q 0)), (1, .int p0)]) hx hb dX5_closes_11 rfl hl (by decide) rfl (fun ls hl => ?_)
    refine lv_iconst (v := 0) hx hb dX5_closes_12 (by decide) ?_
    refine lv_istore_n (lv' := [(3, .int 0), (2, .int 0), (0, .ref (q 0)), (1, .int p0)]) hx hb dX5_closes_13 rfl hl (by decide) rfl (fun ls hl => ?_)
    have L14 : ∀ (n14 i14 : Nat), 0 ≤ i14 → i14 ≤ nj → nj + 1 ≤ i14 + n14 → ∀ (H : Heap) (locs : List Loc), va_P G vwCl ((mdT cI q z)) H → va_D A ((mdT cI q z)) → va_S A s.heap H locs → ∀ (ls : Array Slot), lv_has ls 4 [(3, .int (nI i14)), (2, .int (mPrF (kMs z) p0 i14)), (0, .ref (q 0)), (1, .int p0)] → W p l e ({ frames := 5, cells := 0, slots := 0, locals := 109 } : Room) s m ([.ref (q 0), .int p0] : List Value).toArray below meth cd H locs 0 0 (MQ below (va_Qi (fun (r : Int32) (_ : Unit) => r = (gCloses (kMs z) nv nj p0).1) (mB G (A) (fun _ => (mdT cI q (uMs z (gCloses (kMs z) nv nj p0).2)))) (A)) ([.ref (q 0), .int p0] : List Value).toArray s 0 0 A) (F0 m 14 ls []) := by
      intro n14
      induction n14 with
      | zero => intro i14 h0 h1 h2; exact absurd h2 (by omega)
      | succ n14 ih14 =>
        intro i14 hlo14 hle14 hin14 H locs hP hD hS ls hl
        have hnj := hm.2.2.2
        refine lv_iload_n hx hb dX5_closes_14 rfl (lv_at hl 0 rfl) ?_
        refine lv_aload_n hx hb dX5_closes_15 rfl (lv_at hl 2 rfl) ?_
        refine va_get (D := G) (ci := 5) (v := .ref (q 1)) (C := RX5) (T := TX5) (N := 15) hx hb hts in_X5_closes_X5 hown hK.1 hP 0 rfl rfl 0 (by decide) (hts _ lk_X5_closes_1) (fun _ h9 => h9) rfl dX5_closes_16 ?_
        refine lv_iconst (v := 2) hx hb dX5_closes_19 (by decide) ?_
        refine iald_n hx hb hK hP 1 rfl 2 rfl (by decide) (by decide) dX5_closes_20 ?_
        refine lv_cvt (y := (nI nj)) (hm).2.2.1 ?_
        refine lv_icmp_ge (tgt := 53) hx hb dX5_closes_21 (by decide) (fun c_2 => ?_) (fun c_2 => ?_)
        · skip
          have q_3 : nj = i14 := by have h9 := (nI_leI (a := nj) (b := i14) (by omega) (by omega)).mp c_2; omega
          subst q_3
          refine lv_aload_n hx hb dX5_closes_53 rfl (lv_at hl 2 rfl) ?_
          refine lv_iload_n hx hb dX5_closes_54 rfl (lv_at hl 3 rfl) ?_
          refine pcV (rest := []) ⟨hx, hb, hml, hown, hts⟩ (c_X5_isOpen l G cI cQ q z nv nj hm p0) (cwV 1 hts gX5_closes_X5_isOpen rfl rfl rfl cd_X5_isOpen ⟨Nat.le_of_ble_eq_true rfl, Nat.le_of_ble_eq_true rfl⟩) hK hP [0, 1, 2, 3, 4, 5, 6] rfl 0 rfl rfl rfl rfl hl.1 rfl (Nat.le_of_ble_eq_true rfl) dX5_closes_55 ⟨Nat.zero_le _, Nat.zero_le _⟩ ?_
          refine lv_if_eq (tgt := 79) hx hb dX5_closes_58 (by decide) (fun c_4 => ?_) (fun c_4 => ?_)
          · skip
            have c_4 := bI_0.mp c_4
            refine lv_bipush (v := (-2)) hx hb dX5_closes_79 (by decide) ?_
            exact m_ret () hx hb hr hlocks rfl (by first | rfl | (simp only [gCloses, eq_true c_1, eq_false c_4, if_true, if_false, and_true, true_and, and_false, false_and, or_true, true_or, or_false, false_or, not_true_eq_false, not_false_eq_true, ne_eq, ite_true, ite_false]; done) | (simp only [gCloses, eq_true c_1, eq_false c_4, if_true, if_false, and_true, true_and, and_false, false_and, or_true, true_or, or_false, false_or, not_true_eq_false, not_false_eq_true, ne_eq, ite_true, ite_false]; rfl)) (by rw [show (uMs z (gCloses (kMs z) nv nj p0).2) = z from by first | rfl | (simp only [gCloses, eq_true c_1, eq_false c_4, if_true, if_false, and_true, true_and, and_false, false_and, or_true, true_or, or_false, false_or, not_true_eq_false, not_false_eq_true, ne_eq, ite_true, ite_false]; done) | (simp only [gCloses, eq_true c_1, eq_false c_4, if_true, if_false, and_true, true_and, and_false, false_and, or_true, true_or, or_false, false_or, not_true_eq_false, not_false_eq_true, ne_eq, ite_true, ite_false]; rfl)]; exact hP) (by rw [show (uMs z (gCloses (kMs z) nv nj p0).2) = z from by first | rfl | (simp only [gCloses, eq_true c_1, eq_false c_4, if_true, if_false, and_true, true_and, and_false, false_and, or_true, true_or, or_false, false_or, not_true_eq_false, not_false_eq_true, ne_eq, ite_true, ite_false]; done) | (simp only [gCloses, eq_true c_1, eq_false c_4, if_true, if_false, and_true, true_and, and_false, false_and, or_true, true_or, or_false, false_or, not_true_eq_false, not_false_eq_true, ne_eq, ite_true, ite_false]; rfl)]; exact hD) hS dX5_closes_81
          · skip
            have c_4 := bI_n0.mp c_4
            refine lv_aload_n hx hb dX5_closes_61 rfl (lv_at hl 2 rfl) ?_
            refine pcV (rest := []) ⟨hx, hb, hml, hown, hts⟩ (c_X5_opens l G cI cQ q z nv nj hm) (cwV 0 hts gX5_closes_X5_opens rfl rfl rfl cd_X5_opens ⟨Nat.le_of_ble_eq_true rfl, Nat.le_of_ble_eq_true rfl⟩) hK hP [0, 1, 2, 3, 4, 5, 6] rfl 0 rfl rfl rfl rfl hl.1 rfl (Nat.le_of_ble_eq_true rfl) dX5_closes_62 ⟨Nat.zero_le _, Nat.zero_le _⟩ ?_
            refine lv_iconst (v := 1) hx hb dX5_closes_65 (by decide) ?_
            refine lv_icmp_eq (tgt := 79) hx hb dX5_closes_66 (by decide) (fun c_5 => ?_) (fun c_5 => ?_)
            · skip
              refine lv_bipush (v := (-2)) hx hb dX5_closes_79 (by decide) ?_
              exact m_ret () hx hb hr hlocks rfl (by first | rfl | (simp only [gCloses, eq_true c_1, eq_true c_4, eq_true c_5, eq_true (Eq.symm c_5), if_true, if_false, and_true, true_and, and_false, false_and, or_true, true_or, or_false, false_or, not_true_eq_false, not_false_eq_true, ne_eq, ite_true, ite_false]; done) | (simp only [gCloses, eq_true c_1, eq_true c_4, eq_true c_5, eq_true (Eq.symm c_5), if_true, if_false, and_true, true_and, and_false, false_and, or_true, true_or, or_false, false_or, not_true_eq_false, not_false_eq_true, ne_eq, ite_true, ite_false]; rfl)) (by rw [show (uMs z (gCloses (kMs z) nv nj p0).2) = z from by first | rfl | (simp only [gCloses, eq_true c_1, eq_true c_4, eq_true c_5, eq_true (Eq.symm c_5), if_true, if_false, and_true, true_and, and_false, false_and, or_true, true_or, or_false, false_or, not_true_eq_false, not_false_eq_true, ne_eq, ite_true, ite_false]; done) | (simp only [gCloses, eq_true c_1, eq_true c_4, eq_true c_5, eq_true (Eq.symm c_5), if_true, if_false, and_true, true_and, and_false, false_and, or_true, true_or, or_false, false_or, not_true_eq_false, not_false_eq_true, ne_eq, ite_true, ite_false]; rfl)]; exact hP) (by rw [show (uMs z (gCloses (kMs z) nv nj p0).2) = z from by first | rfl | (simp only [gCloses, eq_true c_1, eq_true c_4, eq_true c_5, eq_true (Eq.symm c_5), if_true, if_false, and_true, true_and, and_false, false_and, or_true, true_or, or_false, false_or, not_true_eq_false, not_false_eq_true, ne_eq, ite_true, ite_false]; done) | (simp only [gCloses, eq_true c_1, eq_true c_4, eq_true c_5, eq_true (Eq.symm c_5), if_true, if_false, and_true, true_and, and_false, false_and, or_true, true_or, or_false, false_or, not_true_eq_false, not_false_eq_true, ne_eq, ite_true, ite_false]; rfl)]; exact hD) hS dX5_closes_81
            · skip
              refine lv_iload_n hx hb dX5_closes_69 rfl (lv_at hl 1 rfl) ?_
              refine lv_aload_n hx hb dX5_closes_70 rfl (lv_at hl 2 rfl) ?_
              refine va_get (D := G) (ci := 5) (v := .ref (q 1)) (C := RX5) (T := TX5) (N := 15) hx hb hts in_X5_closes_X5 hown hK.1 hP 0 rfl rfl 0 (by decide) (hts _ lk_X5_closes_1) (fun _ h9 => h9) rfl dX5_closes_71 ?_
              refine lv_iconst (v := 3) hx hb dX5_closes_74 (by decide) ?_
              refine iald_n hx hb hK hP 1 rfl 3 rfl (by decide) (by decide) dX5_closes_75 ?_
              refine lv_icmp_le (tgt := 82) hx hb dX5_closes_76 (by decide) (fun c_6 => ?_) (fun c_6 => ?_)
              · skip
                refine lv_aload_n hx hb dX5_closes_82 rfl (lv_at hl 2 rfl) ?_
                refine lv_iload_n hx hb dX5_closes_83 rfl (lv_at hl 3 rfl) ?_
                refine mcV (rest := []) (wr := []) ⟨hx, hb, hml, hown, hts⟩ (c_X5_empties l G cI cQ q z nv nj hm p0 c_1 _) (cwV 1 hts gX5_closes_X5_empties rfl rfl rfl cd_X5_empties ⟨Nat.le_of_ble_eq_true rfl, Nat.le_of_ble_eq_true rfl⟩) hK hP hD hS hA [0, 1, 2, 3, 4, 5, 6] [] rfl rfl (by decide) (by decide) (by decide) 0 rfl rfl rfl rfl hl.1 rfl (Nat.le_of_ble_eq_true rfl) dX5_closes_84 ⟨Nat.zero_le _, Nat.zero_le _⟩ (fun r _ H locs hr9 hP hD hS => ?_)
                subst hr9
                have hP : va_P G vwCl ((mdT cI q (uMs z (mEmpties (kMs z) p0 nv nj)))) H := hP
                have hD : va_D A ((mdT cI q (uMs z (mEmpties (kMs z) p0 nv nj)))) := hD
                exact m_ret () hx hb hr hlocks rfl (by first | rfl | (simp only [gCloses, eq_true c_1, eq_true c_4, eq_false c_5, eq_false (Ne.symm c_5), eq_true c_6, eq_false (Int32.not_lt.mpr c_6), if_true, if_false, and_true, true_and, and_false, false_and, or_true, true_or, or_false, false_or, not_true_eq_false, not_false_eq_true, ne_eq, ite_true, ite_false]; done) | (simp only [gCloses, eq_true c_1, eq_true c_4, eq_false c_5, eq_false (Ne.symm c_5), eq_true c_6, eq_false (Int32.not_lt.mpr c_6), if_true, if_false, and_true, true_and, and_false, false_and, or_true, true_or, or_false, false_or, not_true_eq_false, not_false_eq_true, ne_eq, ite_true, ite_false]; rfl)) (by rw [show (uMs z (gCloses (kMs z) nv nj p0).2) = (uMs z (mEmpties (kMs z) p0 nv nj)) from by first | rfl | (simp only [gCloses, eq_true c_1, eq_true c_4, eq_false c_5, eq_false (Ne.symm c_5), eq_true c_6, eq_false (Int32.not_lt.mpr c_6), if_true, if_false, and_true, true_and, and_false, false_and, or_true, true_or, or_false, false_or, not_true_eq_false, not_false_eq_true, ne_eq, ite_true, ite_false]; done) | (simp only [gCloses, eq_true c_1, eq_true c_4, eq_false c_5, eq_false (Ne.symm c_5), eq_true c_6, eq_false (Int32.not_lt.mpr c_6), if_true, if_false, and_true, true_and, and_false, false_and, or_true, true_or, or_false, false_or, not_true_eq_false, not_false_eq_true, ne_eq, ite_true, ite_false]; rfl)]; exact hP) (by rw [show (uMs z (gCloses (kMs z) nv nj p0).2) = (uMs z (mEmpties (kMs z) p0 nv nj)) from by first | rfl | (simp only [gCloses, eq_true c_1, eq_true c_4, eq_false c_5, eq_false (Ne.symm c_5), eq_true c_6, eq_false (Int32.not_lt.mpr c_6), if_true, if_false, and_true, true_and, and_false, false_and, or_true, true_or, or_false, false_or, not_true_eq_false, not_false_eq_true, ne_eq, ite_true, ite_false]; done) | (simp only [gCloses, eq_true c_1, eq_true c_4, eq_false c_5, eq_false (Ne.symm c_5), eq_true c_6, eq_false (Int32.not_lt.mpr c_6), if_true, if_false, and_true, true_and, and_false, false_and, or_true, true_or, or_false, false_or, not_true_eq_false, not_false_eq_true, ne_eq, ite_true, ite_false]; rfl)]; exact hD) hS dX5_closes_87
              · skip
                refine lv_bipush (v := (-2)) hx hb dX5_closes_79 (by decide) ?_
                exact m_ret () hx hb hr hlocks rfl (by first | rfl | (simp only [gCloses, eq_true c_1, eq_true c_4, eq_false c_5, eq_false (Ne.symm c_5), eq_false c_6, eq_true (Int32.not_le.mp c_6), if_true, if_false, and_true, true_and, and_false, false_and, or_true, true_or, or_false, false_or, not_true_eq_false, not_false_eq_true, ne_eq, ite_true, ite_false]; done) | (simp only [gCloses, eq_true c_1, eq_true c_4, eq_false c_5, eq_false (Ne.symm c_5), eq_false c_6, eq_true (Int32.not_le.mp c_6), if_true, if_false, and_true, true_and, and_false, false_and, or_true, true_or, or_false, false_or, not_true_eq_false, not_false_eq_true, ne_eq, ite_true, ite_false]; rfl)) (by rw [show (uMs z (gCloses (kMs z) nv nj p0).2) = z from by first | rfl | (simp only [gCloses, eq_true c_1, eq_true c_4, eq_false c_5, eq_false (Ne.symm c_5), eq_false c_6, eq_true (Int32.not_le.mp c_6), if_true, if_false, and_true, true_and, and_false, false_and, or_true, true_or, or_false, false_or, not_true_eq_false, not_false_eq_true, ne_eq, ite_true, ite_false]; done) | (simp only [gCloses, eq_true c_1, eq_true c_4, eq_false c_5, eq_false (Ne.symm c_5), eq_false c_6, eq_true (Int32.not_le.mp c_6), if_true, if_false, and_true, true_and, and_false, false_and, or_true, true_or, or_false, false_or, not_true_eq_false, not_false_eq_true, ne_eq, ite_true, ite_false]; rfl)]; exact hP) (by rw [show (uMs z (gCloses (kMs z) nv nj p0).2) = z from by first | rfl | (simp only [gCloses, eq_true c_1, eq_true c_4, eq_false c_5, eq_false (Ne.symm c_5), eq_false c_6, eq_true (Int32.not_le.mp c_6), if_true, if_false, and_true, true_and, and_false, false_and, or_true, true_or, or_false, false_or, not_true_eq_false, not_false_eq_true, ne_eq, ite_true, ite_false]; done) | (simp only [gCloses, eq_true c_1, eq_true c_4, eq_false c_5, eq_false (Ne.symm c_5), eq_false c_6, eq_true (Int32.not_le.mp c_6), if_true, if_false, and_true, true_and, and_false, false_and, or_true, true_or, or_false, false_or, not_true_eq_false, not_false_eq_true, ne_eq, ite_true, ite_false]; rfl)]; exact hD) hS dX5_closes_81
        · skip
          have hlt14 : i14 < nj := Nat.lt_of_not_le (fun q => c_2 ((nI_leI (a := nj) (b := i14) (by omega) (by omega)).mpr q))
          refine lv_iload_n hx hb dX5_closes_24 rfl (lv_at hl 1 rfl) ?_
          refine lv_aload_n hx hb dX5_closes_25 rfl (lv_at hl 2 rfl) ?_
          refine lv_iload_n hx hb dX5_closes_26 rfl (lv_at hl 0 rfl) ?_
          refine lv_iconst (v := 2) hx hb dX5_closes_27 (by decide) ?_
          refine pcV (rest := [.int (mPrF (kMs z) p0 i14)]) ⟨hx, hb, hml, hown, hts⟩ (c_X5_of l G cI cQ q z nv nj hm (nI i14) 2 (vp_in_nI (by have := hm.2.2.2; omega) (by decide)) (vp_in_nI (n := 2) (N := 4) (by decide) (by decide))) (cwV 2 hts gX5_closes_X5_of rfl rfl rfl cd_X5_of ⟨Nat.le_of_ble_eq_true rfl, Nat.le_of_ble_eq_true rfl⟩) hK hP [0, 1, 2, 3, 4, 5, 6] rfl 0 rfl rfl rfl rfl hl.1 rfl (Nat.le_of_ble_eq_true rfl) dX5_closes_28 ⟨Nat.zero_le _, Nat.zero_le _⟩ ?_
          refine lv_iload_n hx hb dX5_closes_31 rfl (lv_at hl 3 rfl) ?_
          refine lv_icmp_ne (tgt := 44) hx hb dX5_closes_32 (by decide) (fun c_7 => ?_) (fun c_7 => ?_)
          · skip
            refine lv_iconst (v := 0) hx hb dX5_closes_44 (by decide) ?_
            refine lv_iadd hx hb dX5_closes_45 ?_
            refine lv_istore_n (lv' := [(2, .int ((mPrF (kMs z) p0 i14) + 0)), (3, .int (nI i14)), (0, .ref (q 0)), (1, .int p0)]) hx hb dX5_closes_46 rfl hl (by decide) rfl (fun ls hl => ?_)
            refine lv_iinc (v := (nI (i14 + 1))) (lv' := [(3, .int (nI (i14 + 1))), (2, .int ((mPrF (kMs z) p0 i14) + 0)), (0, .ref (q 0)), (1, .int p0)]) hx hb dX5_closes_47 hl (k := 1) rfl (nI_1 i14) (by decide) rfl (fun ls hl => ?_)
            refine lv_goto (tgt := 14) hx hb dX5_closes_50 (by decide) ?_
            have e_8 : (mPrF (kMs z) p0 (i14 + 1)) = ((mPrF (kMs z) p0 i14) + 0) := by first | rfl | (simp only [mPrF, eq_true c_1, eq_false c_7, eq_false (Ne.symm c_7), if_true, if_false, and_true, true_and, and_false, false_and, or_true, true_or, or_false, false_or, not_true_eq_false, not_false_eq_true, ne_eq, ite_true, ite_false]; done)
            exact ih14 (i14 + 1) (by omega) (by omega) (by omega) _ _ (by exact hP) (by exact hD) hS ls (by rw [e_8]; exact lv_sub hl [0, 1, 2, 3] rfl)
          · skip
            refine lv_aload_n hx hb dX5_closes_35 rfl (lv_at hl 2 rfl) ?_
            refine lv_iload_n hx hb dX5_closes_36 rfl (lv_at hl 0 rfl) ?_
            refine lv_iconst (v := 1) hx hb dX5_closes_37 (by decide) ?_
            refine pcV (rest := [.int (mPrF (kMs z) p0 i14)]) ⟨hx, hb, hml, hown, hts⟩ (c_X5_of l G cI cQ q z nv nj hm (nI i14) 1 (vp_in_nI (by have := hm.2.2.2; omega) (by decide)) (vp_in_nI (n := 1) (N := 4) (by decide) (by decide))) (cwV 2 hts gX5_closes_X5_of rfl rfl rfl cd_X5_of ⟨Nat.le_of_ble_eq_true rfl, Nat.le_of_ble_eq_true rfl⟩) hK hP [0, 1, 2, 3, 4, 5, 6] rfl 0 rfl rfl rfl rfl hl.1 rfl (Nat.le_of_ble_eq_true rfl) dX5_closes_38 ⟨Nat.zero_le _, Nat.zero_le _⟩ ?_
            refine lv_goto (tgt := 45) hx hb dX5_closes_41 (by decide) ?_
            refine lv_iadd hx hb dX5_closes_45 ?_
            refine lv_istore_n (lv' := [(2, .int ((mPrF (kMs z) p0 i14) + (mOf (kMs z) (nI i14) 1))), (3, .int (nI i14)), (0, .ref (q 0)), (1, .int p0)]) hx hb dX5_closes_46 rfl hl (by decide) rfl (fun ls hl => ?_)
            refine lv_iinc (v := (nI (i14 + 1))) (lv' := [(3, .int (nI (i14 + 1))), (2, .int ((mPrF (kMs z) p0 i14) + (mOf (kMs z) (nI i14) 1))), (0, .ref (q 0)), (1, .int p0)]) hx hb dX5_closes_47 hl (k := 1) rfl (nI_1 i14) (by decide) rfl (fun ls hl => ?_)
            refine lv_goto (tgt := 14) hx hb dX5_closes_50 (by decide) ?_
            have e_9 : (mPrF (kMs z) p0 (i14 + 1)) = ((mPrF (kMs z) p0 i14) + (mOf (kMs z) (nI i14) 1)) := by first | rfl | (simp only [mPrF, eq_true c_1, eq_true c_7, eq_true (Eq.symm c_7), if_true, if_false, and_true, true_and, and_false, false_and, or_true, true_or, or_false, false_or, not_true_eq_false, not_false_eq_true, ne_eq, ite_true, ite_false]; done)
            exact ih14 (i14 + 1) (by omega) (by omega) (by omega) _ _ (by exact hP) (by exact hD) hS ls (by rw [e_9]; exact lv_sub hl [0, 1, 2, 3] rfl)
    have e_10 : (nI 0) = 0 := by first | rfl | decide
    have e_11 : (mPrF (kMs z) p0 0) = 0 := by first | rfl | (simp only [mPrF, eq_true c_1, if_true, if_false, and_true, true_and, and_false, false_and, or_true, true_or, or_false, false_or, not_true_eq_false, not_false_eq_true, ne_eq, ite_true, ite_false]; done)
    exact L14 (nj + 1) 0 (by omega) (by omega) (by omega) _ _ (by exact hP) (by exact hD) hS ls (by rw [e_10]; rw [e_11]; exact lv_sub hl [0, 1, 2, 3] rfl)
  · skip
    have c_1 := bI_0.mp c_1
    refine lv_iconst (v := (-1)) hx hb dX5_closes_8 (by decide) ?_
    exact m_ret () hx hb hr hlocks rfl (by first | rfl | (simp only [gCloses, eq_false c_1, if_true, if_false, and_true, true_and, and_false, false_and, or_true, true_or, or_false, false_or, not_true_eq_false, not_false_eq_true, ne_eq, ite_true, ite_false]; done) | (simp only [gCloses, eq_false c_1, if_true, if_false, and_true, true_and, and_false, false_and, or_true, true_or, or_false, false_or, not_true_eq_false, not_false_eq_true, ne_eq, ite_true, ite_false]; rfl)) (by rw [show (uMs z (gCloses (kMs z) nv nj p0).2) = z from by first | rfl | (simp only [gCloses, eq_false c_1, if_true, if_false, and_true, true_and, and_false, false_and, or_true, true_or, or_false, false_or, not_true_eq_false, not_false_eq_true, ne_eq, ite_true, ite_false]; done) | (simp only [gCloses, eq_false c_1, if_true, if_false, and_true, true_and, and_false, false_and, or_true, true_or, or_false, false_or, not_true_eq_false, not_false_eq_true, ne_eq, ite_true, ite_false]; rfl)]; exact hP) (by rw [show (uMs z (gCloses (kMs z) nv nj p0).2) = z from by first | rfl | (simp only [gCloses, eq_false c_1, if_true, if_false, and_true, true_and, and_false, false_and, or_true, true_or, or_false, false_or, not_true_eq_false, not_false_eq_true, ne_eq, ite_true, ite_false]; done) | (simp only [gCloses, eq_false c_1, if_true, if_false, and_true, true_and, and_false, false_and, or_true, true_or, or_false, false_or, not_true_eq_false, not_false_eq_true, ne_eq, ite_true, ite_false]; rfl)]; exact hD) hS dX5_closes_9
theorem cd_X5_closes : yX5_closes.cls = RX5 ∧ yX5_closes.cls ≠ "java/lang/invoke/MethodHandle" ∧ yX5_closes.cls ≠ "java/lang/invoke/VarHandle" ∧ (parseMethodDescriptor yX5_closes.desc).map (fun d => d.parameters.length) = some 1 := by decide +kernel
-- X5_addServer
theorem lk_X5_addServer_1 : Cond.fieldLink RX5 7 "EvenLoadsModel" "s" "[I" ∈ wsX5_addServer := List.mem_of_getElem? (i := 1) (by decide +kernel)
theorem in_X5_addServer_X5 : ∀ w ∈ wsX50, w ∈ wsX5_addServer := by decide +kernel
set_option maxHeartbeats 4000000 in
set_option maxRecDepth 100000 in
theorem c_X5_addServer (l : Launch) (G : va_G) (cI cQ : ClassId) (q : Nat → Nat) (z : MS) (nv nj : Nat) (hm : MI (kMs z) nv nj) (hk : kMkept z ≤ 5) (sz0 : Nat) : Met l yX5_addServer wsX5_addServer ({ frames := 2, cells := 0, slots := 0, locals := 42 } : Room) (mPc G cI cQ [.ref (q 0)] ((mdT cI q z)) sz0) (va_Qi (fun (r : Int32) (_ : Unit) => r = (gAddServer z nv).1) (mB G (va_A ((mdT cI q z)) sz0) (fun _ => (mdT cI q (gAddServer z nv).2))) (va_A ((mdT cI q z)) sz0)) 0 0 (va_A ((mdT cI q z)) sz0) := by
  refine mm_of (cc := cX5_addServer) (maxL := 1) (ret := (some .int)) (own := RX5) (by decide) rfl rfl (Nat.le_of_ble_eq_true rfl) rfl ?_
  intro p e s m below meth cd ls A hx hb hr hts hown hlocks hml hA hK hP hD hS hl
  refine lv_aload_n hx hb dX5_addServer_0 rfl (lv_at hl 0 rfl) ?_
  refine va_get (D := G) (ci := 5) (v := .ref (q 1)) (C := RX5) (T := TX5) (N := 15) hx hb hts in_X5_addServer_X5 hown hK.1 hP 0 rfl rfl 0 (by decide) (hts _ lk_X5_addServer_1) (fun _ h9 => h9) rfl dX5_addServer_1 ?_
  refine lv_iconst (v := 0) hx hb dX5_addServer_4 (by decide) ?_
  refine iald_n hx hb hK hP 1 rfl 0 rfl (by decide) (by decide) dX5_addServer_5 ?_
  refine lv_cvt (y := (nI nv)) (hm).1 ?_
  refine lv_bipush (v := 6) hx hb dX5_addServer_6 (by decide) ?_
  refine lv_icmp_ne (tgt := 14) hx hb dX5_addServer_8 (by decide) (fun c_1 => ?_) (fun c_1 => ?_)
  · skip
    refine lv_aload_n hx hb dX5_addServer_14 rfl (lv_at hl 0 rfl) ?_
    refine mcVv (rest := []) (wr := []) ⟨hx, hb, hml, hown, hts⟩ (c_X5_aside l G cI cQ q z _) (cwV 0 hts gX5_addServer_X5_aside rfl rfl rfl cd_X5_aside ⟨Nat.le_of_ble_eq_true rfl, Nat.le_of_ble_eq_true rfl⟩) hK hP hD hS hA [0, 1, 2, 3, 4, 5, 6] [] rfl rfl (by decide) (by decide) (by decide) 0 rfl rfl rfl rfl hl.1 rfl (Nat.le_of_ble_eq_true rfl) dX5_addServer_15 ⟨Nat.zero_le _, Nat.zero_le _⟩ (fun _ H locs _ hP hD hS => ?_)
    have hP : va_P G vwCl ((mdT cI q (uMbef z (kMs z)))) H := hP
    have hD : va_D A ((mdT cI q (uMbef z (kMs z)))) := hD
    refine lv_aload_n hx hb dX5_addServer_18 rfl (lv_at hl 0 rfl) ?_
    refine va_get (D := G) (ci := 5) (v := .ref (q 1)) (C := RX5) (T := TX5) (N := 15) hx hb hts in_X5_addServer_X5 hown hK.1 hP 0 rfl rfl 0 (by decide) (hts _ lk_X5_addServer_1) (fun _ h9 => h9) rfl dX5_addServer_19 ?_
    refine lv_iconst (v := 1) hx hb dX5_addServer_22 (by decide) ?_
    refine lv_dup2_11 hx hb dX5_addServer_23 rfl rfl ?_
    refine iald_n hx hb hK hP 1 rfl 1 rfl (by decide) (by decide) dX5_addServer_24 ?_
    refine lv_iconst (v := 1) hx hb dX5_addServer_25 (by decide) ?_
    refine lv_aload_n hx hb dX5_addServer_26 rfl (lv_at hl 0 rfl) ?_
    refine va_get (D := G) (ci := 5) (v := .ref (q 1)) (C := RX5) (T := TX5) (N := 15) hx hb hts in_X5_addServer_X5 hown hK.1 hP 0 rfl rfl 0 (by decide) (hts _ lk_X5_addServer_1) (fun _ h9 => h9) rfl dX5_addServer_27 ?_
    refine lv_iconst (v := 0) hx hb dX5_addServer_30 (by decide) ?_
    refine iald_n hx hb hK hP 1 rfl 0 rfl (by decide) (by decide) dX5_addServer_31 ?_
    refine lv_cvt (y := (nI nv)) (hm).1 ?_
    refine lv_ishl hx hb dX5_addServer_32 ?_
    refine lv_ior hx hb dX5_addServer_33 ?_
    refine iast_n hx hb hK hP hD hS 1 rfl 1 rfl (by decide) (by decide) dX5_addServer_34 (fun H locs hP hD hS => ?_)
    have hP : va_P G vwCl ((mdT cI q (uMbef (uMs z (upd (kMs z) 1 (((kMs z) 1) ||| (1 <<< ((nI nv) &&& 31))))) (kMs z)))) H := hP
    have hD : va_D A ((mdT cI q (uMbef (uMs z (upd (kMs z) 1 (((kMs z) 1) ||| (1 <<< ((nI nv) &&& 31))))) (kMs z)))) := hD
    refine lv_aload_n hx hb dX5_addServer_35 rfl (lv_at hl 0 rfl) ?_
    refine va_get (D := G) (ci := 5) (v := .ref (q 1)) (C := RX5) (T := TX5) (N := 15) hx hb hts in_X5_addServer_X5 hown hK.1 hP 0 rfl rfl 0 (by decide) (hts _ lk_X5_addServer_1) (fun _ h9 => h9) rfl dX5_addServer_36 ?_
    refine lv_iconst (v := 0) hx hb dX5_addServer_39 (by decide) ?_
    refine lv_dup2_11 hx hb dX5_addServer_40 rfl rfl ?_
    refine iald_n hx hb hK hP 1 rfl 0 rfl (by decide) (by decide) dX5_addServer_41 ?_
    refine lv_cvt (x := ((upd (kMs z) 1 (((kMs z) 1) ||| (1 <<< ((nI nv) &&& 31)))) 0)) (y := (nI nv)) (by rw [pk_un (by decide)]; exact hm.1) ?_
    refine lv_iconst (v := 1) hx hb dX5_addServer_42 (by decide) ?_
    refine lv_iadd hx hb dX5_addServer_43 ?_
    refine lv_cvt (x := ((nI nv) + 1)) (y := (nI (nv + 1))) (nI_1 _) ?_
    refine iast_n hx hb hK hP hD hS 1 rfl 0 rfl (by decide) (by decide) dX5_addServer_44 (fun H locs hP hD hS => ?_)
    have hP : va_P G vwCl ((mdT cI q (uMbef (uMs z (upd (upd (kMs z) 1 (((kMs z) 1) ||| (1 <<< ((nI nv) &&& 31)))) 0 (nI (nv + 1)))) (kMs z)))) H := hP
    have hD : va_D A ((mdT cI q (uMbef (uMs z (upd (upd (kMs z) 1 (((kMs z) 1) ||| (1 <<< ((nI nv) &&& 31)))) 0 (nI (nv + 1)))) (kMs z)))) := hD
    refine lv_aload_n hx hb dX5_addServer_45 rfl (lv_at hl 0 rfl) ?_
    refine lv_aload_n hx hb dX5_addServer_46 rfl (lv_at hl 0 rfl) ?_
    refine va_get (D := G) (ci := 5) (v := .ref (q 1)) (C := RX5) (T := TX5) (N := 15) hx hb hts in_X5_addServer_X5 hown hK.1 hP 0 rfl rfl 0 (by decide) (hts _ lk_X5_addServer_1) (fun _ h9 => h9) rfl dX5_addServer_47 ?_
    refine lv_iconst (v := 0) hx hb dX5_addServer_50 (by decide) ?_
    refine iald_n hx hb hK hP 1 rfl 0 rfl (by decide) (by decide) dX5_addServer_51 ?_
    refine lv_cvt (x := ((upd (upd (kMs z) 1 (((kMs z) 1) ||| (1 <<< ((nI nv) &&& 31)))) 0 (nI (nv + 1))) 0)) (y := (nI (nv + 1))) (by rw [pk_us]) ?_
    refine lv_iconst (v := 1) hx hb dX5_addServer_52 (by decide) ?_
    refine lv_isub hx hb dX5_addServer_53 ?_
    refine mcV (rest := []) (wr := []) ⟨hx, hb, hml, hown, hts⟩ (c_X5_acted l G cI cQ q (uMbef (uMs z (upd (upd (kMs z) 1 (((kMs z) 1) ||| (1 <<< ((nI nv) &&& 31)))) 0 (nI (nv + 1)))) (kMs z)) hk ((nI (nv + 1)) - 1) _) (cwV 1 hts gX5_addServer_X5_acted rfl rfl rfl cd_X5_acted ⟨Nat.le_of_ble_eq_true rfl, Nat.le_of_ble_eq_true rfl⟩) hK hP hD hS hA [0, 1, 2, 3, 4, 5, 6] [] rfl rfl (by decide) (by decide) (by decide) 0 rfl rfl rfl rfl hl.1 rfl (Nat.le_of_ble_eq_true rfl) dX5_addServer_54 ⟨Nat.zero_le _, Nat.zero_le _⟩ (fun r _ H locs hr9 hP hD hS => ?_)
    subst hr9
    have hP : va_P G vwCl ((mdT cI q (gActed (uMbef (uMs z (upd (upd (kMs z) 1 (((kMs z) 1) ||| (1 <<< ((nI nv) &&& 31)))) 0 (nI (nv + 1)))) (kMs z)) ((nI (nv + 1)) - 1)))) H := hP
    have hD : va_D A ((mdT cI q (gActed (uMbef (uMs z (upd (upd (kMs z) 1 (((kMs z) 1) ||| (1 <<< ((nI nv) &&& 31)))) 0 (nI (nv + 1)))) (kMs z)) ((nI (nv + 1)) - 1)))) := hD
    exact m_ret () hx hb hr hlocks rfl (by first | rfl | (simp only [gAddServer, mAddS, eq_false c_1, eq_false (Ne.symm c_1), if_true, if_false, and_true, true_and, and_false, false_and, or_true, true_or, or_false, false_or, not_true_eq_false, not_false_eq_true, ne_eq, ite_true, ite_false]; done) | (simp only [gAddServer, mAddS, eq_false c_1, eq_false (Ne.symm c_1), if_true, if_false, and_true, true_and, and_false, false_and, or_true, true_or, or_false, false_or, not_true_eq_false, not_false_eq_true, ne_eq, ite_true, ite_false]; rfl)) (by rw [show (gAddServer z nv).2 = (gActed (uMbef (uMs z (upd (upd (kMs z) 1 (((kMs z) 1) ||| (1 <<< ((nI nv) &&& 31)))) 0 (nI (nv + 1)))) (kMs z)) ((nI (nv + 1)) - 1)) from by first | rfl | (simp only [gAddServer, mAddS, eq_false c_1, eq_false (Ne.symm c_1), if_true, if_false, and_true, true_and, and_false, false_and, or_true, true_or, or_false, false_or, not_true_eq_false, not_false_eq_true, ne_eq, ite_true, ite_false]; done) | (simp only [gAddServer, mAddS, eq_false c_1, eq_false (Ne.symm c_1), if_true, if_false, and_true, true_and, and_false, false_and, or_true, true_or, or_false, false_or, not_true_eq_false, not_false_eq_true, ne_eq, ite_true, ite_false]; rfl)]; exact hP) (by rw [show (gAddServer z nv).2 = (gActed (uMbef (uMs z (upd (upd (kMs z) 1 (((kMs z) 1) ||| (1 <<< ((nI nv) &&& 31)))) 0 (nI (nv + 1)))) (kMs z)) ((nI (nv + 1)) - 1)) from by first | rfl | (simp only [gAddServer, mAddS, eq_false c_1, eq_false (Ne.symm c_1), if_true, if_false, and_true, true_and, and_false, false_and, or_true, true_or, or_false, false_or, not_true_eq_false, not_false_eq_true, ne_eq, ite_true, ite_false]; done) | (simp only [gAddServer, mAddS, eq_false c_1, eq_false (Ne.symm c_1), if_true, if_false, and_true, true_and, and_false, false_and, or_true, true_or, or_false, false_or, not_true_eq_false, not_false_eq_true, ne_eq, ite_true, ite_false]; rfl)]; exact hD) hS dX5_addServer_57
  · skip
    refine lv_bipush (v := (-3)) hx hb dX5_addServer_11 (by decide) ?_
    exact m_ret () hx hb hr hlocks rfl (by first | rfl | (simp only [gAddServer, mAddS, eq_true c_1, eq_true (Eq.symm c_1), if_true, if_false, and_true, true_and, and_false, false_and, or_true, true_or, or_false, false_or, not_true_eq_false, not_false_eq_true, ne_eq, ite_true, ite_false]; done) | (simp only [gAddServer, mAddS, eq_true c_1, eq_true (Eq.symm c_1), if_true, if_false, and_true, true_and, and_false, false_and, or_true, true_or, or_false, false_or, not_true_eq_false, not_false_eq_true, ne_eq, ite_true, ite_false]; rfl)) (by rw [show (gAddServer z nv).2 = z from by first | rfl | (simp only [gAddServer, mAddS, eq_true c_1, eq_true (Eq.symm c_1), if_true, if_false, and_true, true_and, and_false, false_and, or_true, true_or, or_false, false_or, not_true_eq_false, not_false_eq_true, ne_eq, ite_true, ite_false]; done) | (simp only [gAddServer, mAddS, eq_true c_1, eq_true (Eq.symm c_1), if_true, if_false, and_true, true_and, and_false, false_and, or_true, true_or, or_false, false_or, not_true_eq_false, not_false_eq_true, ne_eq, ite_true, ite_false]; rfl)]; exact hP) (by rw [show (gAddServer z nv).2 = z from by first | rfl | (simp only [gAddServer, mAddS, eq_true c_1, eq_true (Eq.symm c_1), if_true, if_false, and_true, true_and, and_false, false_and, or_true, true_or, or_false, false_or, not_true_eq_false, not_false_eq_true, ne_eq, ite_true, ite_false]; done) | (simp only [gAddServer, mAddS, eq_true c_1, eq_true (Eq.symm c_1), if_true, if_false, and_true, true_and, and_false, false_and, or_true, true_or, or_false, false_or, not_true_eq_false, not_false_eq_true, ne_eq, ite_true, ite_false]; rfl)]; exact hD) hS dX5_addServer_13
theorem cd_X5_addServer : yX5_addServer.cls = RX5 ∧ yX5_addServer.cls ≠ "java/lang/invoke/MethodHandle" ∧ yX5_addServer.cls ≠ "java/lang/invoke/VarHandle" ∧ (parseMethodDescriptor yX5_addServer.desc).map (fun d => d.parameters.length) = some 0 := by decide +kernel
-- X5_add
set_option maxHeartbeats 4000000 in
set_option maxRecDepth 100000 in
theorem c_X5_add (l : Launch) (G : va_G) (cI cQ : ClassId) (q : Nat → Nat) (z : MS) (nv nj : Nat) (hm : MI (kMs z) nv nj) (p0 : Int32) (p1 : Int32) (p2 : Int32) (hk : kMkept z ≤ 5) (sz0 : Nat) : Met l yX5_add wsX5_add ({ frames := 4, cells := 0, slots := 0, locals := 88 } : Room) (mPc G cI cQ [.ref (q 0), .int p0, .int p1, .int p2] ((mdT cI q z)) sz0) (va_Qi (fun (r : Int32) (_ : Unit) => r = (gAdds (kMs z) nv nj p0 p1 p2).1) (mB G (va_A ((mdT cI q z)) sz0) (fun _ => (mdT cI q (gAct z (gAdds (kMs z) nv nj p0 p1 p2))))) (va_A ((mdT cI q z)) sz0)) 0 0 (va_A ((mdT cI q z)) sz0) := by
  refine mm_of (cc := cX5_add) (maxL := 4) (ret := (some .int)) (own := RX5) (by decide) rfl rfl (Nat.le_of_ble_eq_true rfl) rfl ?_
  intro p e s m below meth cd ls A hx hb hr hts hown hlocks hml hA hK hP hD hS hl
  refine lv_aload_n hx hb dX5_add_0 rfl (lv_at hl 0 rfl) ?_
  refine mcVv (rest := []) (wr := []) ⟨hx, hb, hml, hown, hts⟩ (c_X5_aside l G cI cQ q z _) (cwV 0 hts gX5_add_X5_aside rfl rfl rfl cd_X5_aside ⟨Nat.le_of_ble_eq_true rfl, Nat.le_of_ble_eq_true rfl⟩) hK hP hD hS hA [0, 1, 2, 3, 4, 5, 6] [] rfl rfl (by decide) (by decide) (by decide) 0 rfl rfl rfl rfl hl.1 rfl (Nat.le_of_ble_eq_true rfl) dX5_add_1 ⟨Nat.zero_le _, Nat.zero_le _⟩ (fun _ H locs _ hP hD hS => ?_)
  have hP : va_P G vwCl ((mdT cI q (uMbef z (kMs z)))) H := hP
  have hD : va_D A ((mdT cI q (uMbef z (kMs z)))) := hD
  refine lv_aload_n hx hb dX5_add_4 rfl (lv_at hl 0 rfl) ?_
  refine lv_aload_n hx hb dX5_add_5 rfl (lv_at hl 0 rfl) ?_
  refine lv_iload_n hx hb dX5_add_6 rfl (lv_at hl 1 rfl) ?_
  refine lv_iload_n hx hb dX5_add_7 rfl (lv_at hl 2 rfl) ?_
  refine lv_iload_n hx hb dX5_add_8 rfl (lv_at hl 3 rfl) ?_
  refine mcV (rest := [.ref (q 0)]) (wr := []) ⟨hx, hb, hml, hown, hts⟩ (c_X5_adds l G cI cQ q (uMbef z (kMs z)) nv nj hm p0 p1 p2 _) (cwV 3 hts gX5_add_X5_adds rfl rfl rfl cd_X5_adds ⟨Nat.le_of_ble_eq_true rfl, Nat.le_of_ble_eq_true rfl⟩) hK hP hD hS hA [0, 1, 2, 3, 4, 5, 6] [] rfl rfl (by decide) (by decide) (by decide) 0 rfl rfl rfl rfl hl.1 rfl (Nat.le_of_ble_eq_true rfl) dX5_add_9 ⟨Nat.zero_le _, Nat.zero_le _⟩ (fun r _ H locs hr9 hP hD hS => ?_)
  subst hr9
  have hP : va_P G vwCl ((mdT cI q (uMbef (uMs z (gAdds (kMs z) nv nj p0 p1 p2).2) (kMs z)))) H := hP
  have hD : va_D A ((mdT cI q (uMbef (uMs z (gAdds (kMs z) nv nj p0 p1 p2).2) (kMs z)))) := hD
  refine mcV (rest := []) (wr := []) ⟨hx, hb, hml, hown, hts⟩ (c_X5_acted l G cI cQ q (uMbef (uMs z (gAdds (kMs z) nv nj p0 p1 p2).2) (kMs z)) hk ((gAdds (kMs z) nv nj p0 p1 p2).1) _) (cwV 1 hts gX5_add_X5_acted rfl rfl rfl cd_X5_acted ⟨Nat.le_of_ble_eq_true rfl, Nat.le_of_ble_eq_true rfl⟩) hK hP hD hS hA [0, 1, 2, 3, 4, 5, 6] [] rfl rfl (by decide) (by decide) (by decide) 0 rfl rfl rfl rfl hl.1 rfl (Nat.le_of_ble_eq_true rfl) dX5_add_12 ⟨Nat.zero_le _, Nat.zero_le _⟩ (fun r _ H locs hr9 hP hD hS => ?_)
  subst hr9
  have hP : va_P G vwCl ((mdT cI q (gActed (uMbef (uMs z (gAdds (kMs z) nv nj p0 p1 p2).2) (kMs z)) ((gAdds (kMs z) nv nj p0 p1 p2).1)))) H := hP
  have hD : va_D A ((mdT cI q (gActed (uMbef (uMs z (gAdds (kMs z) nv nj p0 p1 p2).2) (kMs z)) ((gAdds (kMs z) nv nj p0 p1 p2).1)))) := hD
  exact m_ret () hx hb hr hlocks rfl (by first | rfl | (simp only [gAct, if_true, if_false, and_true, true_and, and_false, false_and, or_true, true_or, or_false, false_or, not_true_eq_false, not_false_eq_true, ne_eq, ite_true, ite_false]; done) | (simp only [gAct, if_true, if_false, and_true, true_and, and_false, false_and, or_true, true_or, or_false, false_or, not_true_eq_false, not_false_eq_true, ne_eq, ite_true, ite_false]; rfl)) (by rw [show (gAct z (gAdds (kMs z) nv nj p0 p1 p2)) = (gActed (uMbef (uMs z (gAdds (kMs z) nv nj p0 p1 p2).2) (kMs z)) ((gAdds (kMs z) nv nj p0 p1 p2).1)) from by first | rfl | (simp only [gAct, if_true, if_false, and_true, true_and, and_false, false_and, or_true, true_or, or_false, false_or, not_true_eq_false, not_false_eq_true, ne_eq, ite_true, ite_false]; done) | (simp only [gAct, if_true, if_false, and_true, true_and, and_false, false_and, or_true, true_or, or_false, false_or, not_true_eq_false, not_false_eq_true, ne_eq, ite_true, ite_false]; rfl)]; exact hP) (by rw [show (gAct z (gAdds (kMs z) nv nj p0 p1 p2)) = (gActed (uMbef (uMs z (gAdds (kMs z) nv nj p0 p1 p2).2) (kMs z)) ((gAdds (kMs z) nv nj p0 p1 p2).1)) from by first | rfl | (simp only [gAct, if_true, if_false, and_true, true_and, and_false, false_and, or_true, true_or, or_false, false_or, not_true_eq_false, not_false_eq_true, ne_eq, ite_true, ite_false]; done) | (simp only [gAct, if_true, if_false, and_true, true_and, and_false, false_and, or_true, true_or, or_false, false_or, not_true_eq_false, not_false_eq_true, ne_eq, ite_true, ite_false]; rfl)]; exact hD) hS dX5_add_15
theorem cd_X5_add : yX5_add.cls = RX5 ∧ yX5_add.cls ≠ "java/lang/invoke/MethodHandle" ∧ yX5_add.cls ≠ "java/lang/invoke/VarHandle" ∧ (parseMethodDescriptor yX5_add.desc).map (fun d => d.parameters.length) = some 3 := by decide +kernel
-- X5_finish
set_option maxHeartbeats 4000000 in
set_option maxRecDepth 100000 in
theorem c_X5_finish (l : Launch) (G : va_G) (cI cQ : ClassId) (q : Nat → Nat) (z : MS) (nv nj : Nat) (hm : MI (kMs z) nv nj) (p0 : Int32) (hk : kMkept z ≤ 5) (sz0 : Nat) : Met l yX5_finish wsX5_finish ({ frames := 3, cells := 0, slots := 0, locals := 67 } : Room) (mPc G cI cQ [.ref (q 0), .int p0] ((mdT cI q z)) sz0) (va_Qi (fun (r : Int32) (_ : Unit) => r = (gFin (kMs z) nj p0).1) (mB G (va_A ((mdT cI q z)) sz0) (fun _ => (mdT cI q (gAct z (gFin (kMs z) nj p0))))) (va_A ((mdT cI q z)) sz0)) 0 0 (va_A ((mdT cI q z)) sz0) := by
  refine mm_of (cc := cX5_finish) (maxL := 2) (ret := (some .int)) (own := RX5) (by decide) rfl rfl (Nat.le_of_ble_eq_true rfl) rfl ?_
  intro p e s m below meth cd ls A hx hb hr hts hown hlocks hml hA hK hP hD hS hl
  refine lv_aload_n hx hb dX5_finish_0 rfl (lv_at hl 0 rfl) ?_
  refine mcVv (rest := []) (wr := []) ⟨hx, hb, hml, hown, hts⟩ (c_X5_aside l G cI cQ q z _) (cwV 0 hts gX5_finish_X5_aside rfl rfl rfl cd_X5_aside ⟨Nat.le_of_ble_eq_true rfl, Nat.le_of_ble_eq_true rfl⟩) hK hP hD hS hA [0, 1, 2, 3, 4, 5, 6] [] rfl rfl (by decide) (by decide) (by decide) 0 rfl rfl rfl rfl hl.1 rfl (Nat.le_of_ble_eq_true rfl) dX5_finish_1 ⟨Nat.zero_le _, Nat.zero_le _⟩ (fun _ H locs _ hP hD hS => ?_)
  have hP : va_P G vwCl ((mdT cI q (uMbef z (kMs z)))) H := hP
  have hD : va_D A ((mdT cI q (uMbef z (kMs z)))) := hD
  refine lv_aload_n hx hb dX5_finish_4 rfl (lv_at hl 0 rfl) ?_
  refine lv_aload_n hx hb dX5_finish_5 rfl (lv_at hl 0 rfl) ?_
  refine lv_iload_n hx hb dX5_finish_6 rfl (lv_at hl 1 rfl) ?_
  refine mcV (rest := [.ref (q 0)]) (wr := []) ⟨hx, hb, hml, hown, hts⟩ (c_X5_finishes l G cI cQ q (uMbef z (kMs z)) nv nj hm p0 _) (cwV 1 hts gX5_finish_X5_finishes rfl rfl rfl cd_X5_finishes ⟨Nat.le_of_ble_eq_true rfl, Nat.le_of_ble_eq_true rfl⟩) hK hP hD hS hA [0, 1, 2, 3, 4, 5, 6] [] rfl rfl (by decide) (by decide) (by decide) 0 rfl rfl rfl rfl hl.1 rfl (Nat.le_of_ble_eq_true rfl) dX5_finish_7 ⟨Nat.zero_le _, Nat.zero_le _⟩ (fun r _ H locs hr9 hP hD hS => ?_)
  subst hr9
  have hP : va_P G vwCl ((mdT cI q (uMbef (uMs z (gFin (kMs z) nj p0).2) (kMs z)))) H := hP
  have hD : va_D A ((mdT cI q (uMbef (uMs z (gFin (kMs z) nj p0).2) (kMs z)))) := hD
  refine mcV (rest := []) (wr := []) ⟨hx, hb, hml, hown, hts⟩ (c_X5_acted l G cI cQ q (uMbef (uMs z (gFin (kMs z) nj p0).2) (kMs z)) hk ((gFin (kMs z) nj p0).1) _) (cwV 1 hts gX5_finish_X5_acted rfl rfl rfl cd_X5_acted ⟨Nat.le_of_ble_eq_true rfl, Nat.le_of_ble_eq_true rfl⟩) hK hP hD hS hA [0, 1, 2, 3, 4, 5, 6] [] rfl rfl (by decide) (by decide) (by decide) 0 rfl rfl rfl rfl hl.1 rfl (Nat.le_of_ble_eq_true rfl) dX5_finish_10 ⟨Nat.zero_le _, Nat.zero_le _⟩ (fun r _ H locs hr9 hP hD hS => ?_)
  subst hr9
  have hP : va_P G vwCl ((mdT cI q (gActed (uMbef (uMs z (gFin (kMs z) nj p0).2) (kMs z)) ((gFin (kMs z) nj p0).1)))) H := hP
  have hD : va_D A ((mdT cI q (gActed (uMbef (uMs z (gFin (kMs z) nj p0).2) (kMs z)) ((gFin (kMs z) nj p0).1)))) := hD
  exact m_ret () hx hb hr hlocks rfl (by first | rfl | (simp only [gAct, if_true, if_false, and_true, true_and, and_false, false_and, or_true, true_or, or_false, false_or, not_true_eq_false, not_false_eq_true, ne_eq, ite_true, ite_false]; done) | (simp only [gAct, if_true, if_false, and_true, true_and, and_false, false_and, or_true, true_or, or_false, false_or, not_true_eq_false, not_false_eq_true, ne_eq, ite_true, ite_false]; rfl)) (by rw [show (gAct z (gFin (kMs z) nj p0)) = (gActed (uMbef (uMs z (gFin (kMs z) nj p0).2) (kMs z)) ((gFin (kMs z) nj p0).1)) from by first | rfl | (simp only [gAct, if_true, if_false, and_true, true_and, and_false, false_and, or_true, true_or, or_false, false_or, not_true_eq_false, not_false_eq_true, ne_eq, ite_true, ite_false]; done) | (simp only [gAct, if_true, if_false, and_true, true_and, and_false, false_and, or_true, true_or, or_false, false_or, not_true_eq_false, not_false_eq_true, ne_eq, ite_true, ite_false]; rfl)]; exact hP) (by rw [show (gAct z (gFin (kMs z) nj p0)) = (gActed (uMbef (uMs z (gFin (kMs z) nj p0).2) (kMs z)) ((gFin (kMs z) nj p0).1)) from by first | rfl | (simp only [gAct, if_true, if_false, and_true, true_and, and_false, false_and, or_true, true_or, or_false, false_or, not_true_eq_false, not_false_eq_true, ne_eq, ite_true, ite_false]; done) | (simp only [gAct, if_true, if_false, and_true, true_and, and_false, false_and, or_true, true_or, or_false, false_or, not_true_eq_false, not_false_eq_true, ne_eq, ite_true, ite_false]; rfl)]; exact hD) hS dX5_finish_13
theorem cd_X5_finish : yX5_finish.cls = RX5 ∧ yX5_finish.cls ≠ "java/lang/invoke/MethodHandle" ∧ yX5_finish.cls ≠ "java/lang/invoke/VarHandle" ∧ (parseMethodDescriptor yX5_finish.desc).map (fun d => d.parameters.length) = some 1 := by decide +kernel
-- X5_setBudget
theorem lk_X5_setBudget_1 : Cond.fieldLink RX5 7 "EvenLoadsModel" "s" "[I" ∈ wsX5_setBudget := List.mem_of_getElem? (i := 1) (by decide +kernel)
theorem in_X5_setBudget_X5 : ∀ w ∈ wsX50, w ∈ wsX5_setBudget := by decide +kernel
set_option maxHeartbeats 4000000 in
set_option maxRecDepth 100000 in
theorem c_X5_setBudget (l : Launch) (G : va_G) (cI cQ : ClassId) (q : Nat → Nat) (z : MS) (nv nj : Nat) (hm : MI (kMs z) nv nj) (p0 : Int32) (hk : kMkept z ≤ 5) (sz0 : Nat) : Met l yX5_setBudget wsX5_setBudget ({ frames := 2, cells := 0, slots := 0, locals := 42 } : Room) (mPc G cI cQ [.ref (q 0), .int p0] ((mdT cI q z)) sz0) (va_Qi (fun (r : Int32) (_ : Unit) => r = (gSetBudget z p0).1) (mB G (va_A ((mdT cI q z)) sz0) (fun _ => (mdT cI q (gSetBudget z p0).2))) (va_A ((mdT cI q z)) sz0)) 0 0 (va_A ((mdT cI q z)) sz0) := by
  refine mm_of (cc := cX5_setBudget) (maxL := 3) (ret := (some .int)) (own := RX5) (by decide) rfl rfl (Nat.le_of_ble_eq_true rfl) rfl ?_
  intro p e s m below meth cd ls A hx hb hr hts hown hlocks hml hA hK hP hD hS hl
  refine lv_iload_n hx hb dX5_setBudget_0 rfl (lv_at hl 1 rfl) ?_
  refine lv_iconst (v := 0) hx hb dX5_setBudget_1 (by decide) ?_
  refine lv_sipush (v := 10000) hx hb dX5_setBudget_2 (by decide) ?_
  refine pcS (rest := []) ⟨hx, hb, hml, hown, hts⟩ (c_X5_in l G cI cQ p0 0 10000) (cwS 3 hts gX5_setBudget_X5_in rfl rfl rfl cd_X5_in ⟨Nat.le_of_ble_eq_true rfl, Nat.le_of_ble_eq_true rfl⟩) hK hP [] rfl rfl hl.1 rfl (Nat.le_of_ble_eq_true rfl) dX5_setBudget_5 ⟨Nat.zero_le _, Nat.zero_le _⟩ ?_
  refine lv_if_ne (tgt := 13) hx hb dX5_setBudget_8 (by decide) (fun c_1 => ?_) (fun c_1 => ?_)
  · skip
    have c_1 := bI_n0.mp c_1
    refine lv_aload_n hx hb dX5_setBudget_13 rfl (lv_at hl 0 rfl) ?_
    refine mcVv (rest := []) (wr := []) ⟨hx, hb, hml, hown, hts⟩ (c_X5_aside l G cI cQ q z _) (cwV 0 hts gX5_setBudget_X5_aside rfl rfl rfl cd_X5_aside ⟨Nat.le_of_ble_eq_true rfl, Nat.le_of_ble_eq_true rfl⟩) hK hP hD hS hA [0, 1, 2, 3, 4, 5, 6] [] rfl rfl (by decide) (by decide) (by decide) 0 rfl rfl rfl rfl hl.1 rfl (Nat.le_of_ble_eq_true rfl) dX5_setBudget_14 ⟨Nat.zero_le _, Nat.zero_le _⟩ (fun _ H locs _ hP hD hS => ?_)
    have hP : va_P G vwCl ((mdT cI q (uMbef z (kMs z)))) H := hP
    have hD : va_D A ((mdT cI q (uMbef z (kMs z)))) := hD
    refine lv_aload_n hx hb dX5_setBudget_17 rfl (lv_at hl 0 rfl) ?_
    refine va_get (D := G) (ci := 5) (v := .ref (q 1)) (C := RX5) (T := TX5) (N := 15) hx hb hts in_X5_setBudget_X5 hown hK.1 hP 0 rfl rfl 0 (by decide) (hts _ lk_X5_setBudget_1) (fun _ h9 => h9) rfl dX5_setBudget_18 ?_
    refine lv_iconst (v := 3) hx hb dX5_setBudget_21 (by decide) ?_
    refine iald_n hx hb hK hP 1 rfl 3 rfl (by decide) (by decide) dX5_setBudget_22 ?_
    refine lv_istore_n (lv' := [(2, .int ((kMs z) 3)), (0, .ref (q 0)), (1, .int p0)]) hx hb dX5_setBudget_23 rfl hl (by decide) rfl (fun ls hl => ?_)
    refine lv_aload_n hx hb dX5_setBudget_24 rfl (lv_at hl 1 rfl) ?_
    refine va_get (D := G) (ci := 5) (v := .ref (q 1)) (C := RX5) (T := TX5) (N := 15) hx hb hts in_X5_setBudget_X5 hown hK.1 hP 0 rfl rfl 0 (by decide) (hts _ lk_X5_setBudget_1) (fun _ h9 => h9) rfl dX5_setBudget_25 ?_
    refine lv_iconst (v := 3) hx hb dX5_setBudget_28 (by decide) ?_
    refine lv_iload_n hx hb dX5_setBudget_29 rfl (lv_at hl 2 rfl) ?_
    refine iast_n hx hb hK hP hD hS 1 rfl 3 rfl (by decide) (by decide) dX5_setBudget_30 (fun H locs hP hD hS => ?_)
    have hP : va_P G vwCl ((mdT cI q (uMbef (uMs z (upd (kMs z) 3 p0)) (kMs z)))) H := hP
    have hD : va_D A ((mdT cI q (uMbef (uMs z (upd (kMs z) 3 p0)) (kMs z)))) := hD
    refine lv_aload_n hx hb dX5_setBudget_31 rfl (lv_at hl 1 rfl) ?_
    refine lv_iload_n hx hb dX5_setBudget_32 rfl (lv_at hl 0 rfl) ?_
    refine mcV (rest := []) (wr := []) ⟨hx, hb, hml, hown, hts⟩ (c_X5_acted l G cI cQ q (uMbef (uMs z (upd (kMs z) 3 p0)) (kMs z)) hk ((kMs z) 3) _) (cwV 1 hts gX5_setBudget_X5_acted rfl rfl rfl cd_X5_acted ⟨Nat.le_of_ble_eq_true rfl, Nat.le_of_ble_eq_true rfl⟩) hK hP hD hS hA [0, 1, 2, 3, 4, 5, 6] [] rfl rfl (by decide) (by decide) (by decide) 0 rfl rfl rfl rfl hl.1 rfl (Nat.le_of_ble_eq_true rfl) dX5_setBudget_33 ⟨Nat.zero_le _, Nat.zero_le _⟩ (fun r _ H locs hr9 hP hD hS => ?_)
    subst hr9
    have hP : va_P G vwCl ((mdT cI q (gActed (uMbef (uMs z (upd (kMs z) 3 p0)) (kMs z)) ((kMs z) 3)))) H := hP
    have hD : va_D A ((mdT cI q (gActed (uMbef (uMs z (upd (kMs z) 3 p0)) (kMs z)) ((kMs z) 3)))) := hD
    exact m_ret () hx hb hr hlocks rfl (by first | rfl | (simp only [gSetBudget, eq_true c_1, if_true, if_false, and_true, true_and, and_false, false_and, or_true, true_or, or_false, false_or, not_true_eq_false, not_false_eq_true, ne_eq, ite_true, ite_false]; done) | (simp only [gSetBudget, eq_true c_1, if_true, if_false, and_true, true_and, and_false, false_and, or_true, true_or, or_false, false_or, not_true_eq_false, not_false_eq_true, ne_eq, ite_true, ite_false]; rfl)) (by rw [show (gSetBudget z p0).2 = (gActed (uMbef (uMs z (upd (kMs z) 3 p0)) (kMs z)) ((kMs z) 3)) from by first | rfl | (simp only [gSetBudget, eq_true c_1, if_true, if_false, and_true, true_and, and_false, false_and, or_true, true_or, or_false, false_or, not_true_eq_false, not_false_eq_true, ne_eq, ite_true, ite_false]; done) | (simp only [gSetBudget, eq_true c_1, if_true, if_false, and_true, true_and, and_false, false_and, or_true, true_or, or_false, false_or, not_true_eq_false, not_false_eq_true, ne_eq, ite_true, ite_false]; rfl)]; exact hP) (by rw [show (gSetBudget z p0).2 = (gActed (uMbef (uMs z (upd (kMs z) 3 p0)) (kMs z)) ((kMs z) 3)) from by first | rfl | (simp only [gSetBudget, eq_true c_1, if_true, if_false, and_true, true_and, and_false, false_and, or_true, true_or, or_false, false_or, not_true_eq_false, not_false_eq_true, ne_eq, ite_true, ite_false]; done) | (simp only [gSetBudget, eq_true c_1, if_true, if_false, and_true, true_and, and_false, false_and, or_true, true_or, or_false, false_or, not_true_eq_false, not_false_eq_true, ne_eq, ite_true, ite_false]; rfl)]; exact hD) hS dX5_setBudget_36
  · skip
    have c_1 := bI_0.mp c_1
    refine lv_iconst (v := (-1)) hx hb dX5_setBudget_11 (by decide) ?_
    exact m_ret () hx hb hr hlocks rfl (by first | rfl | (simp only [gSetBudget, eq_false c_1, if_true, if_false, and_true, true_and, and_false, false_and, or_true, true_or, or_false, false_or, not_true_eq_false, not_false_eq_true, ne_eq, ite_true, ite_false]; done) | (simp only [gSetBudget, eq_false c_1, if_true, if_false, and_true, true_and, and_false, false_and, or_true, true_or, or_false, false_or, not_true_eq_false, not_false_eq_true, ne_eq, ite_true, ite_false]; rfl)) (by rw [show (gSetBudget z p0).2 = z from by first | rfl | (simp only [gSetBudget, eq_false c_1, if_true, if_false, and_true, true_and, and_false, false_and, or_true, true_or, or_false, false_or, not_true_eq_false, not_false_eq_true, ne_eq, ite_true, ite_false]; done) | (simp only [gSetBudget, eq_false c_1, if_true, if_false, and_true, true_and, and_false, false_and, or_true, true_or, or_false, false_or, not_true_eq_false, not_false_eq_true, ne_eq, ite_true, ite_false]; rfl)]; exact hP) (by rw [show (gSetBudget z p0).2 = z from by first | rfl | (simp only [gSetBudget, eq_false c_1, if_true, if_false, and_true, true_and, and_false, false_and, or_true, true_or, or_false, false_or, not_true_eq_false, not_false_eq_true, ne_eq, ite_true, ite_false]; done) | (simp only [gSetBudget, eq_false c_1, if_true, if_false, and_true, true_and, and_false, false_and, or_true, true_or, or_false, false_or, not_true_eq_false, not_false_eq_true, ne_eq, ite_true, ite_false]; rfl)]; exact hD) hS dX5_setBudget_12
theorem cd_X5_setBudget : yX5_setBudget.cls = RX5 ∧ yX5_setBudget.cls ≠ "java/lang/invoke/MethodHandle" ∧ yX5_setBudget.cls ≠ "java/lang/invoke/VarHandle" ∧ (parseMethodDescriptor yX5_setBudget.desc).map (fun d => d.parameters.length) = some 1 := by decide +kernel
-- X5_setFactor
theorem lk_X5_setFactor_1 : Cond.fieldLink RX5 7 "EvenLoadsModel" "s" "[I" ∈ wsX5_setFactor := List.mem_of_getElem? (i := 1) (by decide +kernel)
theorem in_X5_setFactor_X5 : ∀ w ∈ wsX50, w ∈ wsX5_setFactor := by decide +kernel
set_option maxHeartbeats 4000000 in
set_option maxRecDepth 100000 in
theorem c_X5_setFactor (l : Launch) (G : va_G) (cI cQ : ClassId) (q : Nat → Nat) (z : MS) (nv nj : Nat) (hm : MI (kMs z) nv nj) (p0 : Int32) (hk : kMkept z ≤ 5) (sz0 : Nat) : Met l yX5_setFactor wsX5_setFactor ({ frames := 5, cells := 0, slots := 0, locals := 107 } : Room) (mPc G cI cQ [.ref (q 0), .int p0] ((mdT cI q z)) sz0) (va_Qi (fun (r : Int32) (_ : Unit) => r = (gSetFactor z nj p0).1) (mB G (va_A ((mdT cI q z)) sz0) (fun _ => (mdT cI q (gSetFactor z nj p0).2))) (va_A ((mdT cI q z)) sz0)) 0 0 (va_A ((mdT cI q z)) sz0) := by
  refine mm_of (cc := cX5_setFactor) (maxL := 2) (ret := (some .int)) (own := RX5) (by decide) rfl rfl (Nat.le_of_ble_eq_true rfl) rfl ?_
  intro p e s m below meth cd ls A hx hb hr hts hown hlocks hml hA hK hP hD hS hl
  refine lv_iload_n hx hb dX5_setFactor_0 rfl (lv_at hl 1 rfl) ?_
  refine lv_bipush (v := 100) hx hb dX5_setFactor_1 (by decide) ?_
  refine lv_sipush (v := 400) hx hb dX5_setFactor_3 (by decide) ?_
  refine pcS (rest := []) ⟨hx, hb, hml, hown, hts⟩ (c_X5_in l G cI cQ p0 100 400) (cwS 3 hts gX5_setFactor_X5_in rfl rfl rfl cd_X5_in ⟨Nat.le_of_ble_eq_true rfl, Nat.le_of_ble_eq_true rfl⟩) hK hP [] rfl rfl hl.1 rfl (Nat.le_of_ble_eq_true rfl) dX5_setFactor_6 ⟨Nat.zero_le _, Nat.zero_le _⟩ ?_
  refine lv_if_ne (tgt := 14) hx hb dX5_setFactor_9 (by decide) (fun c_1 => ?_) (fun c_1 => ?_)
  · skip
    have c_1 := bI_n0.mp c_1
    refine lv_aload_n hx hb dX5_setFactor_14 rfl (lv_at hl 0 rfl) ?_
    refine mcVv (rest := []) (wr := []) ⟨hx, hb, hml, hown, hts⟩ (c_X5_aside l G cI cQ q z _) (cwV 0 hts gX5_setFactor_X5_aside rfl rfl rfl cd_X5_aside ⟨Nat.le_of_ble_eq_true rfl, Nat.le_of_ble_eq_true rfl⟩) hK hP hD hS hA [0, 1, 2, 3, 4, 5, 6] [] rfl rfl (by decide) (by decide) (by decide) 0 rfl rfl rfl rfl hl.1 rfl (Nat.le_of_ble_eq_true rfl) dX5_setFactor_15 ⟨Nat.zero_le _, Nat.zero_le _⟩ (fun _ H locs _ hP hD hS => ?_)
    have hP : va_P G vwCl ((mdT cI q (uMbef z (kMs z)))) H := hP
    have hD : va_D A ((mdT cI q (uMbef z (kMs z)))) := hD
    refine lv_aload_n hx hb dX5_setFactor_18 rfl (lv_at hl 0 rfl) ?_
    refine va_get (D := G) (ci := 5) (v := .ref (q 1)) (C := RX5) (T := TX5) (N := 15) hx hb hts in_X5_setFactor_X5 hown hK.1 hP 0 rfl rfl 0 (by decide) (hts _ lk_X5_setFactor_1) (fun _ h9 => h9) rfl dX5_setFactor_19 ?_
    refine lv_iconst (v := 4) hx hb dX5_setFactor_22 (by decide) ?_
    refine lv_iload_n hx hb dX5_setFactor_23 rfl (lv_at hl 1 rfl) ?_
    refine iast_n hx hb hK hP hD hS 1 rfl 4 rfl (by decide) (by decide) dX5_setFactor_24 (fun H locs hP hD hS => ?_)
    have hP : va_P G vwCl ((mdT cI q (uMbef (uMs z (upd (kMs z) 4 p0)) (kMs z)))) H := hP
    have hD : va_D A ((mdT cI q (uMbef (uMs z (upd (kMs z) 4 p0)) (kMs z)))) := hD
    refine lv_aload_n hx hb dX5_setFactor_25 rfl (lv_at hl 0 rfl) ?_
    refine lv_aload_n hx hb dX5_setFactor_26 rfl (lv_at hl 0 rfl) ?_
    refine pcV (rest := [.ref (q 0)]) ⟨hx, hb, hml, hown, hts⟩ (c_X5_target l G cI cQ q (uMbef (uMs z (upd (kMs z) 4 p0)) (kMs z)) nv nj (MI_upd 4 p0 (by omega) (by omega) hm)) (cwV 0 hts gX5_setFactor_X5_target rfl rfl rfl cd_X5_target ⟨Nat.le_of_ble_eq_true rfl, Nat.le_of_ble_eq_true rfl⟩) hK hP [0, 1, 2, 3, 4, 5, 6] rfl 0 rfl rfl rfl rfl hl.1 rfl (Nat.le_of_ble_eq_true rfl) dX5_setFactor_27 ⟨Nat.zero_le _, Nat.zero_le _⟩ ?_
    refine mcV (rest := []) (wr := []) ⟨hx, hb, hml, hown, hts⟩ (c_X5_acted l G cI cQ q (uMbef (uMs z (upd (kMs z) 4 p0)) (kMs z)) hk (mTarget (upd (kMs z) 4 p0) nj) _) (cwV 1 hts gX5_setFactor_X5_acted rfl rfl rfl cd_X5_acted ⟨Nat.le_of_ble_eq_true rfl, Nat.le_of_ble_eq_true rfl⟩) hK hP hD hS hA [0, 1, 2, 3, 4, 5, 6] [] rfl rfl (by decide) (by decide) (by decide) 0 rfl rfl rfl rfl hl.1 rfl (Nat.le_of_ble_eq_true rfl) dX5_setFactor_30 ⟨Nat.zero_le _, Nat.zero_le _⟩ (fun r _ H locs hr9 hP hD hS => ?_)
    subst hr9
    have hP : va_P G vwCl ((mdT cI q (gActed (uMbef (uMs z (upd (kMs z) 4 p0)) (kMs z)) (mTarget (upd (kMs z) 4 p0) nj)))) H := hP
    have hD : va_D A ((mdT cI q (gActed (uMbef (uMs z (upd (kMs z) 4 p0)) (kMs z)) (mTarget (upd (kMs z) 4 p0) nj)))) := hD
    exact m_ret () hx hb hr hlocks rfl (by first | rfl | (simp only [gSetFactor, eq_true c_1, if_true, if_false, and_true, true_and, and_false, false_and, or_true, true_or, or_false, false_or, not_true_eq_false, not_false_eq_true, ne_eq, ite_true, ite_false]; done) | (simp only [gSetFactor, eq_true c_1, if_true, if_false, and_true, true_and, and_false, false_and, or_true, true_or, or_false, false_or, not_true_eq_false, not_false_eq_true, ne_eq, ite_true, ite_false]; rfl)) (by rw [show (gSetFactor z nj p0).2 = (gActed (uMbef (uMs z (upd (kMs z) 4 p0)) (kMs z)) (mTarget (upd (kMs z) 4 p0) nj)) from by first | rfl | (simp only [gSetFactor, eq_true c_1, if_true, if_false, and_true, true_and, and_false, false_and, or_true, true_or, or_false, false_or, not_true_eq_false, not_false_eq_true, ne_eq, ite_true, ite_false]; done) | (simp only [gSetFactor, eq_true c_1, if_true, if_false, and_true, true_and, and_false, false_and, or_true, true_or, or_false, false_or, not_true_eq_false, not_false_eq_true, ne_eq, ite_true, ite_false]; rfl)]; exact hP) (by rw [show (gSetFactor z nj p0).2 = (gActed (uMbef (uMs z (upd (kMs z) 4 p0)) (kMs z)) (mTarget (upd (kMs z) 4 p0) nj)) from by first | rfl | (simp only [gSetFactor, eq_true c_1, if_true, if_false, and_true, true_and, and_false, false_and, or_true, true_or, or_false, false_or, not_true_eq_false, not_false_eq_true, ne_eq, ite_true, ite_false]; done) | (simp only [gSetFactor, eq_true c_1, if_true, if_false, and_true, true_and, and_false, false_and, or_true, true_or, or_false, false_or, not_true_eq_false, not_false_eq_true, ne_eq, ite_true, ite_false]; rfl)]; exact hD) hS dX5_setFactor_33
  · skip
    have c_1 := bI_0.mp c_1
    refine lv_iconst (v := (-1)) hx hb dX5_setFactor_12 (by decide) ?_
    exact m_ret () hx hb hr hlocks rfl (by first | rfl | (simp only [gSetFactor, eq_false c_1, if_true, if_false, and_true, true_and, and_false, false_and, or_true, true_or, or_false, false_or, not_true_eq_false, not_false_eq_true, ne_eq, ite_true, ite_false]; done) | (simp only [gSetFactor, eq_false c_1, if_true, if_false, and_true, true_and, and_false, false_and, or_true, true_or, or_false, false_or, not_true_eq_false, not_false_eq_true, ne_eq, ite_true, ite_false]; rfl)) (by rw [show (gSetFactor z nj p0).2 = z from by first | rfl | (simp only [gSetFactor, eq_false c_1, if_true, if_false, and_true, true_and, and_false, false_and, or_true, true_or, or_false, false_or, not_true_eq_false, not_false_eq_true, ne_eq, ite_true, ite_false]; done) | (simp only [gSetFactor, eq_false c_1, if_true, if_false, and_true, true_and, and_false, false_and, or_true, true_or, or_false, false_or, not_true_eq_false, not_false_eq_true, ne_eq, ite_true, ite_false]; rfl)]; exact hP) (by rw [show (gSetFactor z nj p0).2 = z from by first | rfl | (simp only [gSetFactor, eq_false c_1, if_true, if_false, and_true, true_and, and_false, false_and, or_true, true_or, or_false, false_or, not_true_eq_false, not_false_eq_true, ne_eq, ite_true, ite_false]; done) | (simp only [gSetFactor, eq_false c_1, if_true, if_false, and_true, true_and, and_false, false_and, or_true, true_or, or_false, false_or, not_true_eq_false, not_false_eq_true, ne_eq, ite_true, ite_false]; rfl)]; exact hD) hS dX5_setFactor_13
theorem cd_X5_setFactor : yX5_setFactor.cls = RX5 ∧ yX5_setFactor.cls ≠ "java/lang/invoke/MethodHandle" ∧ yX5_setFactor.cls ≠ "java/lang/invoke/VarHandle" ∧ (parseMethodDescriptor yX5_setFactor.desc).map (fun d => d.parameters.length) = some 1 := by decide +kernel
-- X5_move
set_option maxHeartbeats 4000000 in
set_option maxRecDepth 100000 in
theorem c_X5_move (l : Launch) (G : va_G) (cI cQ : ClassId) (q : Nat → Nat) (z : MS) (nv nj : Nat) (hm : MI (kMs z) nv nj) (p0 : Int32) (p1 : Int32) (hk : kMkept z ≤ 5) (sz0 : Nat) : Met l yX5_move wsX5_move ({ frames := 4, cells := 0, slots := 0, locals := 89 } : Room) (mPc G cI cQ [.ref (q 0), .int p0, .int p1] ((mdT cI q z)) sz0) (va_Qi (fun (r : Int32) (_ : Unit) => r = (gMoves (kMs z) nv nj p0 p1).1) (mB G (va_A ((mdT cI q z)) sz0) (fun _ => (mdT cI q (gAct z (gMoves (kMs z) nv nj p0 p1))))) (va_A ((mdT cI q z)) sz0)) 0 0 (va_A ((mdT cI q z)) sz0) := by
  refine mm_of (cc := cX5_move) (maxL := 3) (ret := (some .int)) (own := RX5) (by decide) rfl rfl (Nat.le_of_ble_eq_true rfl) rfl ?_
  intro p e s m below meth cd ls A hx hb hr hts hown hlocks hml hA hK hP hD hS hl
  refine lv_aload_n hx hb dX5_move_0 rfl (lv_at hl 0 rfl) ?_
  refine mcVv (rest := []) (wr := []) ⟨hx, hb, hml, hown, hts⟩ (c_X5_aside l G cI cQ q z _) (cwV 0 hts gX5_move_X5_aside rfl rfl rfl cd_X5_aside ⟨Nat.le_of_ble_eq_true rfl, Nat.le_of_ble_eq_true rfl⟩) hK hP hD hS hA [0, 1, 2, 3, 4, 5, 6] [] rfl rfl (by decide) (by decide) (by decide) 0 rfl rfl rfl rfl hl.1 rfl (Nat.le_of_ble_eq_true rfl) dX5_move_1 ⟨Nat.zero_le _, Nat.zero_le _⟩ (fun _ H locs _ hP hD hS => ?_)
  have hP : va_P G vwCl ((mdT cI q (uMbef z (kMs z)))) H := hP
  have hD : va_D A ((mdT cI q (uMbef z (kMs z)))) := hD
  refine lv_aload_n hx hb dX5_move_4 rfl (lv_at hl 0 rfl) ?_
  refine lv_aload_n hx hb dX5_move_5 rfl (lv_at hl 0 rfl) ?_
  refine lv_iload_n hx hb dX5_move_6 rfl (lv_at hl 1 rfl) ?_
  refine lv_iload_n hx hb dX5_move_7 rfl (lv_at hl 2 rfl) ?_
  refine mcV (rest := [.ref (q 0)]) (wr := []) ⟨hx, hb, hml, hown, hts⟩ (c_X5_moves l G cI cQ q (uMbef z (kMs z)) nv nj hm p0 p1 _) (cwV 2 hts gX5_move_X5_moves rfl rfl rfl cd_X5_moves ⟨Nat.le_of_ble_eq_true rfl, Nat.le_of_ble_eq_true rfl⟩) hK hP hD hS hA [0, 1, 2, 3, 4, 5, 6] [] rfl rfl (by decide) (by decide) (by decide) 0 rfl rfl rfl rfl hl.1 rfl (Nat.le_of_ble_eq_true rfl) dX5_move_8 ⟨Nat.zero_le _, Nat.zero_le _⟩ (fun r _ H locs hr9 hP hD hS => ?_)
  subst hr9
  have hP : va_P G vwCl ((mdT cI q (uMbef (uMs z (gMoves (kMs z) nv nj p0 p1).2) (kMs z)))) H := hP
  have hD : va_D A ((mdT cI q (uMbef (uMs z (gMoves (kMs z) nv nj p0 p1).2) (kMs z)))) := hD
  refine mcV (rest := []) (wr := []) ⟨hx, hb, hml, hown, hts⟩ (c_X5_acted l G cI cQ q (uMbef (uMs z (gMoves (kMs z) nv nj p0 p1).2) (kMs z)) hk ((gMoves (kMs z) nv nj p0 p1).1) _) (cwV 1 hts gX5_move_X5_acted rfl rfl rfl cd_X5_acted ⟨Nat.le_of_ble_eq_true rfl, Nat.le_of_ble_eq_true rfl⟩) hK hP hD hS hA [0, 1, 2, 3, 4, 5, 6] [] rfl rfl (by decide) (by decide) (by decide) 0 rfl rfl rfl rfl hl.1 rfl (Nat.le_of_ble_eq_true rfl) dX5_move_11 ⟨Nat.zero_le _, Nat.zero_le _⟩ (fun r _ H locs hr9 hP hD hS => ?_)
  subst hr9
  have hP : va_P G vwCl ((mdT cI q (gActed (uMbef (uMs z (gMoves (kMs z) nv nj p0 p1).2) (kMs z)) ((gMoves (kMs z) nv nj p0 p1).1)))) H := hP
  have hD : va_D A ((mdT cI q (gActed (uMbef (uMs z (gMoves (kMs z) nv nj p0 p1).2) (kMs z)) ((gMoves (kMs z) nv nj p0 p1).1)))) := hD
  exact m_ret () hx hb hr hlocks rfl (by first | rfl | (simp only [gAct, if_true, if_false, and_true, true_and, and_false, false_and, or_true, true_or, or_false, false_or, not_true_eq_false, not_false_eq_true, ne_eq, ite_true, ite_false]; done) | (simp only [gAct, if_true, if_false, and_true, true_and, and_false, false_and, or_true, true_or, or_false, false_or, not_true_eq_false, not_false_eq_true, ne_eq, ite_true, ite_false]; rfl)) (by rw [show (gAct z (gMoves (kMs z) nv nj p0 p1)) = (gActed (uMbef (uMs z (gMoves (kMs z) nv nj p0 p1).2) (kMs z)) ((gMoves (kMs z) nv nj p0 p1).1)) from by first | rfl | (simp only [gAct, if_true, if_false, and_true, true_and, and_false, false_and, or_true, true_or, or_false, false_or, not_true_eq_false, not_false_eq_true, ne_eq, ite_true, ite_false]; done) | (simp only [gAct, if_true, if_false, and_true, true_and, and_false, false_and, or_true, true_or, or_false, false_or, not_true_eq_false, not_false_eq_true, ne_eq, ite_true, ite_false]; rfl)]; exact hP) (by rw [show (gAct z (gMoves (kMs z) nv nj p0 p1)) = (gActed (uMbef (uMs z (gMoves (kMs z) nv nj p0 p1).2) (kMs z)) ((gMoves (kMs z) nv nj p0 p1).1)) from by first | rfl | (simp only [gAct, if_true, if_false, and_true, true_and, and_false, false_and, or_true, true_or, or_false, false_or, not_true_eq_false, not_false_eq_true, ne_eq, ite_true, ite_false]; done) | (simp only [gAct, if_true, if_false, and_true, true_and, and_false, false_and, or_true, true_or, or_false, false_or, not_true_eq_false, not_false_eq_true, ne_eq, ite_true, ite_false]; rfl)]; exact hD) hS dX5_move_14
theorem cd_X5_move : yX5_move.cls = RX5 ∧ yX5_move.cls ≠ "java/lang/invoke/MethodHandle" ∧ yX5_move.cls ≠ "java/lang/invoke/VarHandle" ∧ (parseMethodDescriptor yX5_move.desc).map (fun d => d.parameters.length) = some 2 := by decide +kernel
-- X5_exchange
set_option maxHeartbeats 4000000 in
set_option maxRecDepth 100000 in
theorem c_X5_exchange (l : Launch) (G : va_G) (cI cQ : ClassId) (q : Nat → Nat) (z : MS) (nv nj : Nat) (hm : MI (kMs z) nv nj) (p0 : Int32) (p1 : Int32) (hk : kMkept z ≤ 5) (sz0 : Nat) : Met l yX5_exchange wsX5_exchange ({ frames := 4, cells := 0, slots := 0, locals := 91 } : Room) (mPc G cI cQ [.ref (q 0), .int p0, .int p1] ((mdT cI q z)) sz0) (va_Qi (fun (r : Int32) (_ : Unit) => r = (gExch (kMs z) nv nj p0 p1).1) (mB G (va_A ((mdT cI q z)) sz0) (fun _ => (mdT cI q (gAct z (gExch (kMs z) nv nj p0 p1))))) (va_A ((mdT cI q z)) sz0)) 0 0 (va_A ((mdT cI q z)) sz0) := by
  refine mm_of (cc := cX5_exchange) (maxL := 3) (ret := (some .int)) (own := RX5) (by decide) rfl rfl (Nat.le_of_ble_eq_true rfl) rfl ?_
  intro p e s m below meth cd ls A hx hb hr hts hown hlocks hml hA hK hP hD hS hl
  refine lv_aload_n hx hb dX5_exchange_0 rfl (lv_at hl 0 rfl) ?_
  refine mcVv (rest := []) (wr := []) ⟨hx, hb, hml, hown, hts⟩ (c_X5_aside l G cI cQ q z _) (cwV 0 hts gX5_exchange_X5_aside rfl rfl rfl cd_X5_aside ⟨Nat.le_of_ble_eq_true rfl, Nat.le_of_ble_eq_true rfl⟩) hK hP hD hS hA [0, 1, 2, 3, 4, 5, 6] [] rfl rfl (by decide) (by decide) (by decide) 0 rfl rfl rfl rfl hl.1 rfl (Nat.le_of_ble_eq_true rfl) dX5_exchange_1 ⟨Nat.zero_le _, Nat.zero_le _⟩ (fun _ H locs _ hP hD hS => ?_)
  have hP : va_P G vwCl ((mdT cI q (uMbef z (kMs z)))) H := hP
  have hD : va_D A ((mdT cI q (uMbef z (kMs z)))) := hD
  refine lv_aload_n hx hb dX5_exchange_4 rfl (lv_at hl 0 rfl) ?_
  refine lv_aload_n hx hb dX5_exchange_5 rfl (lv_at hl 0 rfl) ?_
  refine lv_iload_n hx hb dX5_exchange_6 rfl (lv_at hl 1 rfl) ?_
  refine lv_iload_n hx hb dX5_exchange_7 rfl (lv_at hl 2 rfl) ?_
  refine mcV (rest := [.ref (q 0)]) (wr := []) ⟨hx, hb, hml, hown, hts⟩ (c_X5_exchanges l G cI cQ q (uMbef z (kMs z)) nv nj hm p0 p1 _) (cwV 2 hts gX5_exchange_X5_exchanges rfl rfl rfl cd_X5_exchanges ⟨Nat.le_of_ble_eq_true rfl, Nat.le_of_ble_eq_true rfl⟩) hK hP hD hS hA [0, 1, 2, 3, 4, 5, 6] [] rfl rfl (by decide) (by decide) (by decide) 0 rfl rfl rfl rfl hl.1 rfl (Nat.le_of_ble_eq_true rfl) dX5_exchange_8 ⟨Nat.zero_le _, Nat.zero_le _⟩ (fun r _ H locs hr9 hP hD hS => ?_)
  subst hr9
  have hP : va_P G vwCl ((mdT cI q (uMbef (uMs z (gExch (kMs z) nv nj p0 p1).2) (kMs z)))) H := hP
  have hD : va_D A ((mdT cI q (uMbef (uMs z (gExch (kMs z) nv nj p0 p1).2) (kMs z)))) := hD
  refine mcV (rest := []) (wr := []) ⟨hx, hb, hml, hown, hts⟩ (c_X5_acted l G cI cQ q (uMbef (uMs z (gExch (kMs z) nv nj p0 p1).2) (kMs z)) hk ((gExch (kMs z) nv nj p0 p1).1) _) (cwV 1 hts gX5_exchange_X5_acted rfl rfl rfl cd_X5_acted ⟨Nat.le_of_ble_eq_true rfl, Nat.le_of_ble_eq_true rfl⟩) hK hP hD hS hA [0, 1, 2, 3, 4, 5, 6] [] rfl rfl (by decide) (by decide) (by decide) 0 rfl rfl rfl rfl hl.1 rfl (Nat.le_of_ble_eq_true rfl) dX5_exchange_11 ⟨Nat.zero_le _, Nat.zero_le _⟩ (fun r _ H locs hr9 hP hD hS => ?_)
  subst hr9
  have hP : va_P G vwCl ((mdT cI q (gActed (uMbef (uMs z (gExch (kMs z) nv nj p0 p1).2) (kMs z)) ((gExch (kMs z) nv nj p0 p1).1)))) H := hP
  have hD : va_D A ((mdT cI q (gActed (uMbef (uMs z (gExch (kMs z) nv nj p0 p1).2) (kMs z)) ((gExch (kMs z) nv nj p0 p1).1)))) := hD
  exact m_ret () hx hb hr hlocks rfl (by first | rfl | (simp only [gAct, if_true, if_false, and_true, true_and, and_false, false_and, or_true, true_or, or_false, false_or, not_true_eq_false, not_false_eq_true, ne_eq, ite_true, ite_false]; done) | (simp only [gAct, if_true, if_false, and_true, true_and, and_false, false_and, or_true, true_or, or_false, false_or, not_true_eq_false, not_false_eq_true, ne_eq, ite_true, ite_false]; rfl)) (by rw [show (gAct z (gExch (kMs z) nv nj p0 p1)) = (gActed (uMbef (uMs z (gExch (kMs z) nv nj p0 p1).2) (kMs z)) ((gExch (kMs z) nv nj p0 p1).1)) from by first | rfl | (simp only [gAct, if_true, if_false, and_true, true_and, and_false, false_and, or_true, true_or, or_false, false_or, not_true_eq_false, not_false_eq_true, ne_eq, ite_true, ite_false]; done) | (simp only [gAct, if_true, if_false, and_true, true_and, and_false, false_and, or_true, true_or, or_false, false_or, not_true_eq_false, not_false_eq_true, ne_eq, ite_true, ite_false]; rfl)]; exact hP) (by rw [show (gAct z (gExch (kMs z) nv nj p0 p1)) = (gActed (uMbef (uMs z (gExch (kMs z) nv nj p0 p1).2) (kMs z)) ((gExch (kMs z) nv nj p0 p1).1)) from by first | rfl | (simp only [gAct, if_true, if_false, and_true, true_and, and_false, false_and, or_true, true_or, or_false, false_or, not_true_eq_false, not_false_eq_true, ne_eq, ite_true, ite_false]; done) | (simp only [gAct, if_true, if_false, and_true, true_and, and_false, false_and, or_true, true_or, or_false, false_or, not_true_eq_false, not_false_eq_true, ne_eq, ite_true, ite_false]; rfl)]; exact hD) hS dX5_exchange_14
theorem cd_X5_exchange : yX5_exchange.cls = RX5 ∧ yX5_exchange.cls ≠ "java/lang/invoke/MethodHandle" ∧ yX5_exchange.cls ≠ "java/lang/invoke/VarHandle" ∧ (parseMethodDescriptor yX5_exchange.desc).map (fun d => d.parameters.length) = some 2 := by decide +kernel
-- X5_ring
set_option maxHeartbeats 4000000 in
set_option maxRecDepth 100000 in
theorem c_X5_ring (l : Launch) (G : va_G) (cI cQ : ClassId) (q : Nat → Nat) (z : MS) (nv nj : Nat) (hm : MI (kMs z) nv nj) (p0 : Int32) (p1 : Int32) (p2 : Int32) (hk : kMkept z ≤ 5) (sz0 : Nat) : Met l yX5_ring wsX5_ring ({ frames := 4, cells := 0, slots := 0, locals := 94 } : Room) (mPc G cI cQ [.ref (q 0), .int p0, .int p1, .int p2] ((mdT cI q z)) sz0) (va_Qi (fun (r : Int32) (_ : Unit) => r = (gRing (kMs z) nv nj p0 p1 p2).1) (mB G (va_A ((mdT cI q z)) sz0) (fun _ => (mdT cI q (gAct z (gRing (kMs z) nv nj p0 p1 p2))))) (va_A ((mdT cI q z)) sz0)) 0 0 (va_A ((mdT cI q z)) sz0) := by
  refine mm_of (cc := cX5_ring) (maxL := 4) (ret := (some .int)) (own := RX5) (by decide) rfl rfl (Nat.le_of_ble_eq_true rfl) rfl ?_
  intro p e s m below meth cd ls A hx hb hr hts hown hlocks hml hA hK hP hD hS hl
  refine lv_aload_n hx hb dX5_ring_0 rfl (lv_at hl 0 rfl) ?_
  refine mcVv (rest := []) (wr := []) ⟨hx, hb, hml, hown, hts⟩ (c_X5_aside l G cI cQ q z _) (cwV 0 hts gX5_ring_X5_aside rfl rfl rfl cd_X5_aside ⟨Nat.le_of_ble_eq_true rfl, Nat.le_of_ble_eq_true rfl⟩) hK hP hD hS hA [0, 1, 2, 3, 4, 5, 6] [] rfl rfl (by decide) (by decide) (by decide) 0 rfl rfl rfl rfl hl.1 rfl (Nat.le_of_ble_eq_true rfl) dX5_ring_1 ⟨Nat.zero_le _, Nat.zero_le _⟩ (fun _ H locs _ hP hD hS => ?_)
  have hP : va_P G vwCl ((mdT cI q (uMbef z (kMs z)))) H := hP
  have hD : va_D A ((mdT cI q (uMbef z (kMs z)))) := hD
  refine lv_aload_n hx hb dX5_ring_4 rfl (lv_at hl 0 rfl) ?_
  refine lv_aload_n hx hb dX5_ring_5 rfl (lv_at hl 0 rfl) ?_
  refine lv_iload_n hx hb dX5_ring_6 rfl (lv_at hl 1 rfl) ?_
  refine lv_iload_n hx hb dX5_ring_7 rfl (lv_at hl 2 rfl) ?_
  refine lv_iload_n hx hb dX5_ring_8 rfl (lv_at hl 3 rfl) ?_
  refine mcV (rest := [.ref (q 0)]) (wr := []) ⟨hx, hb, hml, hown, hts⟩ (c_X5_rings l G cI cQ q (uMbef z (kMs z)) nv nj hm p0 p1 p2 _) (cwV 3 hts gX5_ring_X5_rings rfl rfl rfl cd_X5_rings ⟨Nat.le_of_ble_eq_true rfl, Nat.le_of_ble_eq_true rfl⟩) hK hP hD hS hA [0, 1, 2, 3, 4, 5, 6] [] rfl rfl (by decide) (by decide) (by decide) 0 rfl rfl rfl rfl hl.1 rfl (Nat.le_of_ble_eq_true rfl) dX5_ring_9 ⟨Nat.zero_le _, Nat.zero_le _⟩ (fun r _ H locs hr9 hP hD hS => ?_)
  subst hr9
  have hP : va_P G vwCl ((mdT cI q (uMbef (uMs z (gRing (kMs z) nv nj p0 p1 p2).2) (kMs z)))) H := hP
  have hD : va_D A ((mdT cI q (uMbef (uMs z (gRing (kMs z) nv nj p0 p1 p2).2) (kMs z)))) := hD
  refine mcV (rest := []) (wr := []) ⟨hx, hb, hml, hown, hts⟩ (c_X5_acted l G cI cQ q (uMbef (uMs z (gRing (kMs z) nv nj p0 p1 p2).2) (kMs z)) hk ((gRing (kMs z) nv nj p0 p1 p2).1) _) (cwV 1 hts gX5_ring_X5_acted rfl rfl rfl cd_X5_acted ⟨Nat.le_of_ble_eq_true rfl, Nat.le_of_ble_eq_true rfl⟩) hK hP hD hS hA [0, 1, 2, 3, 4, 5, 6] [] rfl rfl (by decide) (by decide) (by decide) 0 rfl rfl rfl rfl hl.1 rfl (Nat.le_of_ble_eq_true rfl) dX5_ring_12 ⟨Nat.zero_le _, Nat.zero_le _⟩ (fun r _ H locs hr9 hP hD hS => ?_)
  subst hr9
  have hP : va_P G vwCl ((mdT cI q (gActed (uMbef (uMs z (gRing (kMs z) nv nj p0 p1 p2).2) (kMs z)) ((gRing (kMs z) nv nj p0 p1 p2).1)))) H := hP
  have hD : va_D A ((mdT cI q (gActed (uMbef (uMs z (gRing (kMs z) nv nj p0 p1 p2).2) (kMs z)) ((gRing (kMs z) nv nj p0 p1 p2).1)))) := hD
  exact m_ret () hx hb hr hlocks rfl (by first | rfl | (simp only [gAct, if_true, if_false, and_true, true_and, and_false, false_and, or_true, true_or, or_false, false_or, not_true_eq_false, not_false_eq_true, ne_eq, ite_true, ite_false]; done) | (simp only [gAct, if_true, if_false, and_true, true_and, and_false, false_and, or_true, true_or, or_false, false_or, not_true_eq_false, not_false_eq_true, ne_eq, ite_true, ite_false]; rfl)) (by rw [show (gAct z (gRing (kMs z) nv nj p0 p1 p2)) = (gActed (uMbef (uMs z (gRing (kMs z) nv nj p0 p1 p2).2) (kMs z)) ((gRing (kMs z) nv nj p0 p1 p2).1)) from by first | rfl | (simp only [gAct, if_true, if_false, and_true, true_and, and_false, false_and, or_true, true_or, or_false, false_or, not_true_eq_false, not_false_eq_true, ne_eq, ite_true, ite_false]; done) | (simp only [gAct, if_true, if_false, and_true, true_and, and_false, false_and, or_true, true_or, or_false, false_or, not_true_eq_false, not_false_eq_true, ne_eq, ite_true, ite_false]; rfl)]; exact hP) (by rw [show (gAct z (gRing (kMs z) nv nj p0 p1 p2)) = (gActed (uMbef (uMs z (gRing (kMs z) nv nj p0 p1 p2).2) (kMs z)) ((gRing (kMs z) nv nj p0 p1 p2).1)) from by first | rfl | (simp only [gAct, if_true, if_false, and_true, true_and, and_false, false_and, or_true, true_or, or_false, false_or, not_true_eq_false, not_false_eq_true, ne_eq, ite_true, ite_false]; done) | (simp only [gAct, if_true, if_false, and_true, true_and, and_false, false_and, or_true, true_or, or_false, false_or, not_true_eq_false, not_false_eq_true, ne_eq, ite_true, ite_false]; rfl)]; exact hD) hS dX5_ring_15
theorem cd_X5_ring : yX5_ring.cls = RX5 ∧ yX5_ring.cls ≠ "java/lang/invoke/MethodHandle" ∧ yX5_ring.cls ≠ "java/lang/invoke/VarHandle" ∧ (parseMethodDescriptor yX5_ring.desc).map (fun d => d.parameters.length) = some 3 := by decide +kernel
-- X5_close
set_option maxHeartbeats 4000000 in
set_option maxRecDepth 100000 in
theorem c_X5_close (l : Launch) (G : va_G) (cI cQ : ClassId) (q : Nat → Nat) (z : MS) (nv nj : Nat) (hm : MI (kMs z) nv nj) (p0 : Int32) (hk : kMkept z ≤ 5) (sz0 : Nat) : Met l yX5_close wsX5_close ({ frames := 6, cells := 0, slots := 0, locals := 132 } : Room) (mPc G cI cQ [.ref (q 0), .int p0] ((mdT cI q z)) sz0) (va_Qi (fun (r : Int32) (_ : Unit) => r = (gCloses (kMs z) nv nj p0).1) (mB G (va_A ((mdT cI q z)) sz0) (fun _ => (mdT cI q (gAct z (gCloses (kMs z) nv nj p0))))) (va_A ((mdT cI q z)) sz0)) 0 0 (va_A ((mdT cI q z)) sz0) := by
  refine mm_of (cc := cX5_close) (maxL := 2) (ret := (some .int)) (own := RX5) (by decide) rfl rfl (Nat.le_of_ble_eq_true rfl) rfl ?_
  intro p e s m below meth cd ls A hx hb hr hts hown hlocks hml hA hK hP hD hS hl
  refine lv_aload_n hx hb dX5_close_0 rfl (lv_at hl 0 rfl) ?_
  refine mcVv (rest := []) (wr := []) ⟨hx, hb, hml, hown, hts⟩ (c_X5_aside l G cI cQ q z _) (cwV 0 hts gX5_close_X5_aside rfl rfl rfl cd_X5_aside ⟨Nat.le_of_ble_eq_true rfl, Nat.le_of_ble_eq_true rfl⟩) hK hP hD hS hA [0, 1, 2, 3, 4, 5, 6] [] rfl rfl (by decide) (by decide) (by decide) 0 rfl rfl rfl rfl hl.1 rfl (Nat.le_of_ble_eq_true rfl) dX5_close_1 ⟨Nat.zero_le _, Nat.zero_le _⟩ (fun _ H locs _ hP hD hS => ?_)
  have hP : va_P G vwCl ((mdT cI q (uMbef z (kMs z)))) H := hP
  have hD : va_D A ((mdT cI q (uMbef z (kMs z)))) := hD
  refine lv_aload_n hx hb dX5_close_4 rfl (lv_at hl 0 rfl) ?_
  refine lv_aload_n hx hb dX5_close_5 rfl (lv_at hl 0 rfl) ?_
  refine lv_iload_n hx hb dX5_close_6 rfl (lv_at hl 1 rfl) ?_
  refine mcV (rest := [.ref (q 0)]) (wr := []) ⟨hx, hb, hml, hown, hts⟩ (c_X5_closes l G cI cQ q (uMbef z (kMs z)) nv nj hm p0 _) (cwV 1 hts gX5_close_X5_closes rfl rfl rfl cd_X5_closes ⟨Nat.le_of_ble_eq_true rfl, Nat.le_of_ble_eq_true rfl⟩) hK hP hD hS hA [0, 1, 2, 3, 4, 5, 6] [] rfl rfl (by decide) (by decide) (by decide) 0 rfl rfl rfl rfl hl.1 rfl (Nat.le_of_ble_eq_true rfl) dX5_close_7 ⟨Nat.zero_le _, Nat.zero_le _⟩ (fun r _ H locs hr9 hP hD hS => ?_)
  subst hr9
  have hP : va_P G vwCl ((mdT cI q (uMbef (uMs z (gCloses (kMs z) nv nj p0).2) (kMs z)))) H := hP
  have hD : va_D A ((mdT cI q (uMbef (uMs z (gCloses (kMs z) nv nj p0).2) (kMs z)))) := hD
  refine mcV (rest := []) (wr := []) ⟨hx, hb, hml, hown, hts⟩ (c_X5_acted l G cI cQ q (uMbef (uMs z (gCloses (kMs z) nv nj p0).2) (kMs z)) hk ((gCloses (kMs z) nv nj p0).1) _) (cwV 1 hts gX5_close_X5_acted rfl rfl rfl cd_X5_acted ⟨Nat.le_of_ble_eq_true rfl, Nat.le_of_ble_eq_true rfl⟩) hK hP hD hS hA [0, 1, 2, 3, 4, 5, 6] [] rfl rfl (by decide) (by decide) (by decide) 0 rfl rfl rfl rfl hl.1 rfl (Nat.le_of_ble_eq_true rfl) dX5_close_10 ⟨Nat.zero_le _, Nat.zero_le _⟩ (fun r _ H locs hr9 hP hD hS => ?_)
  subst hr9
  have hP : va_P G vwCl ((mdT cI q (gActed (uMbef (uMs z (gCloses (kMs z) nv nj p0).2) (kMs z)) ((gCloses (kMs z) nv nj p0).1)))) H := hP
  have hD : va_D A ((mdT cI q (gActed (uMbef (uMs z (gCloses (kMs z) nv nj p0).2) (kMs z)) ((gCloses (kMs z) nv nj p0).1)))) := hD
  exact m_ret () hx hb hr hlocks rfl (by first | rfl | (simp only [gAct, if_true, if_false, and_true, true_and, and_false, false_and, or_true, true_or, or_false, false_or, not_true_eq_false, not_false_eq_true, ne_eq, ite_true, ite_false]; done) | (simp only [gAct, if_true, if_false, and_true, true_and, and_false, false_and, or_true, true_or, or_false, false_or, not_true_eq_false, not_false_eq_true, ne_eq, ite_true, ite_false]; rfl)) (by rw [show (gAct z (gCloses (kMs z) nv nj p0)) = (gActed (uMbef (uMs z (gCloses (kMs z) nv nj p0).2) (kMs z)) ((gCloses (kMs z) nv nj p0).1)) from by first | rfl | (simp only [gAct, if_true, if_false, and_true, true_and, and_false, false_and, or_true, true_or, or_false, false_or, not_true_eq_false, not_false_eq_true, ne_eq, ite_true, ite_false]; done) | (simp only [gAct, if_true, if_false, and_true, true_and, and_false, false_and, or_true, true_or, or_false, false_or, not_true_eq_false, not_false_eq_true, ne_eq, ite_true, ite_false]; rfl)]; exact hP) (by rw [show (gAct z (gCloses (kMs z) nv nj p0)) = (gActed (uMbef (uMs z (gCloses (kMs z) nv nj p0).2) (kMs z)) ((gCloses (kMs z) nv nj p0).1)) from by first | rfl | (simp only [gAct, if_true, if_false, and_true, true_and, and_false, false_and, or_true, true_or, or_false, false_or, not_true_eq_false, not_false_eq_true, ne_eq, ite_true, ite_false]; done) | (simp only [gAct, if_true, if_false, and_true, true_and, and_false, false_and, or_true, true_or, or_false, false_or, not_true_eq_false, not_false_eq_true, ne_eq, ite_true, ite_false]; rfl)]; exact hD) hS dX5_close_13
theorem cd_X5_close : yX5_close.cls = RX5 ∧ yX5_close.cls ≠ "java/lang/invoke/MethodHandle" ∧ yX5_close.cls ≠ "java/lang/invoke/VarHandle" ∧ (parseMethodDescriptor yX5_close.desc).map (fun d => d.parameters.length) = some 1 := by decide +kernel
-- X5_open
theorem lk_X5_open_1 : Cond.fieldLink RX5 7 "EvenLoadsModel" "s" "[I" ∈ wsX5_open := List.mem_of_getElem? (i := 1) (by decide +kernel)
theorem in_X5_open_X5 : ∀ w ∈ wsX50, w ∈ wsX5_open := by decide +kernel
set_option maxHeartbeats 4000000 in
set_option maxRecDepth 100000 in
theorem c_X5_open (l : Launch) (G : va_G) (cI cQ : ClassId) (q : Nat → Nat) (z : MS) (nv nj : Nat) (hm : MI (kMs z) nv nj) (p0 : Int32) (hk : kMkept z ≤ 5) (sz0 : Nat) : Met l yX5_open wsX5_open ({ frames := 3, cells := 0, slots := 0, locals := 64 } : Room) (mPc G cI cQ [.ref (q 0), .int p0] ((mdT cI q z)) sz0) (va_Qi (fun (r : Int32) (_ : Unit) => r = (gOpen z nv p0).1) (mB G (va_A ((mdT cI q z)) sz0) (fun _ => (mdT cI q (gOpen z nv p0).2))) (va_A ((mdT cI q z)) sz0)) 0 0 (va_A ((mdT cI q z)) sz0) := by
  refine mm_of (cc := cX5_open) (maxL := 2) (ret := (some .int)) (own := RX5) (by decide) rfl rfl (Nat.le_of_ble_eq_true rfl) rfl ?_
  intro p e s m below meth cd ls A hx hb hr hts hown hlocks hml hA hK hP hD hS hl
  refine lv_aload_n hx hb dX5_open_0 rfl (lv_at hl 0 rfl) ?_
  refine lv_iload_n hx hb dX5_open_1 rfl (lv_at hl 1 rfl) ?_
  refine pcV (rest := []) ⟨hx, hb, hml, hown, hts⟩ (c_X5_isServer l G cI cQ q z nv nj hm p0) (cwV 1 hts gX5_open_X5_isServer rfl rfl rfl cd_X5_isServer ⟨Nat.le_of_ble_eq_true rfl, Nat.le_of_ble_eq_true rfl⟩) hK hP [0, 1, 2, 3, 4, 5, 6] rfl 0 rfl rfl rfl rfl hl.1 rfl (Nat.le_of_ble_eq_true rfl) dX5_open_2 ⟨Nat.zero_le _, Nat.zero_le _⟩ ?_
  refine lv_if_ne (tgt := 10) hx hb dX5_open_5 (by decide) (fun c_1 => ?_) (fun c_1 => ?_)
  · skip
    have c_1 := bI_n0.mp c_1
    refine lv_aload_n hx hb dX5_open_10 rfl (lv_at hl 0 rfl) ?_
    refine lv_iload_n hx hb dX5_open_11 rfl (lv_at hl 1 rfl) ?_
    refine pcV (rest := []) ⟨hx, hb, hml, hown, hts⟩ (c_X5_isOpen l G cI cQ q z nv nj hm p0) (cwV 1 hts gX5_open_X5_isOpen rfl rfl rfl cd_X5_isOpen ⟨Nat.le_of_ble_eq_true rfl, Nat.le_of_ble_eq_true rfl⟩) hK hP [0, 1, 2, 3, 4, 5, 6] rfl 0 rfl rfl rfl rfl hl.1 rfl (Nat.le_of_ble_eq_true rfl) dX5_open_12 ⟨Nat.zero_le _, Nat.zero_le _⟩ ?_
    refine lv_if_eq (tgt := 21) hx hb dX5_open_15 (by decide) (fun c_2 => ?_) (fun c_2 => ?_)
    · skip
      have c_2 := bI_0.mp c_2
      refine lv_aload_n hx hb dX5_open_21 rfl (lv_at hl 0 rfl) ?_
      refine mcVv (rest := []) (wr := []) ⟨hx, hb, hml, hown, hts⟩ (c_X5_aside l G cI cQ q z _) (cwV 0 hts gX5_open_X5_aside rfl rfl rfl cd_X5_aside ⟨Nat.le_of_ble_eq_true rfl, Nat.le_of_ble_eq_true rfl⟩) hK hP hD hS hA [0, 1, 2, 3, 4, 5, 6] [] rfl rfl (by decide) (by decide) (by decide) 0 rfl rfl rfl rfl hl.1 rfl (Nat.le_of_ble_eq_true rfl) dX5_open_22 ⟨Nat.zero_le _, Nat.zero_le _⟩ (fun _ H locs _ hP hD hS => ?_)
      have hP : va_P G vwCl ((mdT cI q (uMbef z (kMs z)))) H := hP
      have hD : va_D A ((mdT cI q (uMbef z (kMs z)))) := hD
      refine lv_aload_n hx hb dX5_open_25 rfl (lv_at hl 0 rfl) ?_
      refine va_get (D := G) (ci := 5) (v := .ref (q 1)) (C := RX5) (T := TX5) (N := 15) hx hb hts in_X5_open_X5 hown hK.1 hP 0 rfl rfl 0 (by decide) (hts _ lk_X5_open_1) (fun _ h9 => h9) rfl dX5_open_26 ?_
      refine lv_iconst (v := 1) hx hb dX5_open_29 (by decide) ?_
      refine lv_dup2_11 hx hb dX5_open_30 rfl rfl ?_
      refine iald_n hx hb hK hP 1 rfl 1 rfl (by decide) (by decide) dX5_open_31 ?_
      refine lv_iconst (v := 1) hx hb dX5_open_32 (by decide) ?_
      refine lv_iload_n hx hb dX5_open_33 rfl (lv_at hl 1 rfl) ?_
      refine lv_ishl hx hb dX5_open_34 ?_
      refine lv_ior hx hb dX5_open_35 ?_
      refine iast_n hx hb hK hP hD hS 1 rfl 1 rfl (by decide) (by decide) dX5_open_36 (fun H locs hP hD hS => ?_)
      have hP : va_P G vwCl ((mdT cI q (uMbef (uMs z (upd (kMs z) 1 (((kMs z) 1) ||| (1 <<< (p0 &&& 31))))) (kMs z)))) H := hP
      have hD : va_D A ((mdT cI q (uMbef (uMs z (upd (kMs z) 1 (((kMs z) 1) ||| (1 <<< (p0 &&& 31))))) (kMs z)))) := hD
      refine lv_aload_n hx hb dX5_open_37 rfl (lv_at hl 0 rfl) ?_
      refine lv_aload_n hx hb dX5_open_38 rfl (lv_at hl 0 rfl) ?_
      refine pcV (rest := [.ref (q 0)]) ⟨hx, hb, hml, hown, hts⟩ (c_X5_opens l G cI cQ q (uMbef (uMs z (upd (kMs z) 1 (((kMs z) 1) ||| (1 <<< (p0 &&& 31))))) (kMs z)) nv nj (MI_upd 1 (((kMs z) 1) ||| (1 <<< (p0 &&& 31))) (by omega) (by omega) hm)) (cwV 0 hts gX5_open_X5_opens rfl rfl rfl cd_X5_opens ⟨Nat.le_of_ble_eq_true rfl, Nat.le_of_ble_eq_true rfl⟩) hK hP [0, 1, 2, 3, 4, 5, 6] rfl 0 rfl rfl rfl rfl hl.1 rfl (Nat.le_of_ble_eq_true rfl) dX5_open_39 ⟨Nat.zero_le _, Nat.zero_le _⟩ ?_
      refine mcV (rest := []) (wr := []) ⟨hx, hb, hml, hown, hts⟩ (c_X5_acted l G cI cQ q (uMbef (uMs z (upd (kMs z) 1 (((kMs z) 1) ||| (1 <<< (p0 &&& 31))))) (kMs z)) hk (mOpens (upd (kMs z) 1 (((kMs z) 1) ||| (1 <<< (p0 &&& 31))))) _) (cwV 1 hts gX5_open_X5_acted rfl rfl rfl cd_X5_acted ⟨Nat.le_of_ble_eq_true rfl, Nat.le_of_ble_eq_true rfl⟩) hK hP hD hS hA [0, 1, 2, 3, 4, 5, 6] [] rfl rfl (by decide) (by decide) (by decide) 0 rfl rfl rfl rfl hl.1 rfl (Nat.le_of_ble_eq_true rfl) dX5_open_42 ⟨Nat.zero_le _, Nat.zero_le _⟩ (fun r _ H locs hr9 hP hD hS => ?_)
      subst hr9
      have hP : va_P G vwCl ((mdT cI q (gActed (uMbef (uMs z (upd (kMs z) 1 (((kMs z) 1) ||| (1 <<< (p0 &&& 31))))) (kMs z)) (mOpens (upd (kMs z) 1 (((kMs z) 1) ||| (1 <<< (p0 &&& 31)))))))) H := hP
      have hD : va_D A ((mdT cI q (gActed (uMbef (uMs z (upd (kMs z) 1 (((kMs z) 1) ||| (1 <<< (p0 &&& 31))))) (kMs z)) (mOpens (upd (kMs z) 1 (((kMs z) 1) ||| (1 <<< (p0 &&& 31)))))))) := hD
      exact m_ret () hx hb hr hlocks rfl (by first | rfl | (simp only [gOpen, mOpenS, eq_true c_1, eq_false c_2, if_true, if_false, and_true, true_and, and_false, false_and, or_true, true_or, or_false, false_or, not_true_eq_false, not_false_eq_true, ne_eq, ite_true, ite_false]; done) | (simp only [gOpen, mOpenS, eq_true c_1, eq_false c_2, if_true, if_false, and_true, true_and, and_false, false_and, or_true, true_or, or_false, false_or, not_true_eq_false, not_false_eq_true, ne_eq, ite_true, ite_false]; rfl)) (by rw [show (gOpen z nv p0).2 = (gActed (uMbef (uMs z (upd (kMs z) 1 (((kMs z) 1) ||| (1 <<< (p0 &&& 31))))) (kMs z)) (mOpens (upd (kMs z) 1 (((kMs z) 1) ||| (1 <<< (p0 &&& 31)))))) from by first | rfl | (simp only [gOpen, mOpenS, eq_true c_1, eq_false c_2, if_true, if_false, and_true, true_and, and_false, false_and, or_true, true_or, or_false, false_or, not_true_eq_false, not_false_eq_true, ne_eq, ite_true, ite_false]; done) | (simp only [gOpen, mOpenS, eq_true c_1, eq_false c_2, if_true, if_false, and_true, true_and, and_false, false_and, or_true, true_or, or_false, false_or, not_true_eq_false, not_false_eq_true, ne_eq, ite_true, ite_false]; rfl)]; exact hP) (by rw [show (gOpen z nv p0).2 = (gActed (uMbef (uMs z (upd (kMs z) 1 (((kMs z) 1) ||| (1 <<< (p0 &&& 31))))) (kMs z)) (mOpens (upd (kMs z) 1 (((kMs z) 1) ||| (1 <<< (p0 &&& 31)))))) from by first | rfl | (simp only [gOpen, mOpenS, eq_true c_1, eq_false c_2, if_true, if_false, and_true, true_and, and_false, false_and, or_true, true_or, or_false, false_or, not_true_eq_false, not_false_eq_true, ne_eq, ite_true, ite_false]; done) | (simp only [gOpen, mOpenS, eq_true c_1, eq_false c_2, if_true, if_false, and_true, true_and, and_false, false_and, or_true, true_or, or_false, false_or, not_true_eq_false, not_false_eq_true, ne_eq, ite_true, ite_false]; rfl)]; exact hD) hS dX5_open_45
    · skip
      have c_2 := bI_n0.mp c_2
      refine lv_bipush (v := (-2)) hx hb dX5_open_18 (by decide) ?_
      exact m_ret () hx hb hr hlocks rfl (by first | rfl | (simp only [gOpen, mOpenS, eq_true c_1, eq_true c_2, if_true, if_false, and_true, true_and, and_false, false_and, or_true, true_or, or_false, false_or, not_true_eq_false, not_false_eq_true, ne_eq, ite_true, ite_false]; done) | (simp only [gOpen, mOpenS, eq_true c_1, eq_true c_2, if_true, if_false, and_true, true_and, and_false, false_and, or_true, true_or, or_false, false_or, not_true_eq_false, not_false_eq_true, ne_eq, ite_true, ite_false]; rfl)) (by rw [show (gOpen z nv p0).2 = z from by first | rfl | (simp only [gOpen, mOpenS, eq_true c_1, eq_true c_2, if_true, if_false, and_true, true_and, and_false, false_and, or_true, true_or, or_false, false_or, not_true_eq_false, not_false_eq_true, ne_eq, ite_true, ite_false]; done) | (simp only [gOpen, mOpenS, eq_true c_1, eq_true c_2, if_true, if_false, and_true, true_and, and_false, false_and, or_true, true_or, or_false, false_or, not_true_eq_false, not_false_eq_true, ne_eq, ite_true, ite_false]; rfl)]; exact hP) (by rw [show (gOpen z nv p0).2 = z from by first | rfl | (simp only [gOpen, mOpenS, eq_true c_1, eq_true c_2, if_true, if_false, and_true, true_and, and_false, false_and, or_true, true_or, or_false, false_or, not_true_eq_false, not_false_eq_true, ne_eq, ite_true, ite_false]; done) | (simp only [gOpen, mOpenS, eq_true c_1, eq_true c_2, if_true, if_false, and_true, true_and, and_false, false_and, or_true, true_or, or_false, false_or, not_true_eq_false, not_false_eq_true, ne_eq, ite_true, ite_false]; rfl)]; exact hD) hS dX5_open_20
  · skip
    have c_1 := bI_0.mp c_1
    refine lv_iconst (v := (-1)) hx hb dX5_open_8 (by decide) ?_
    exact m_ret () hx hb hr hlocks rfl (by first | rfl | (simp only [gOpen, mOpenS, eq_false c_1, if_true, if_false, and_true, true_and, and_false, false_and, or_true, true_or, or_false, false_or, not_true_eq_false, not_false_eq_true, ne_eq, ite_true, ite_false]; done) | (simp only [gOpen, mOpenS, eq_false c_1, if_true, if_false, and_true, true_and, and_false, false_and, or_true, true_or, or_false, false_or, not_true_eq_false, not_false_eq_true, ne_eq, ite_true, ite_false]; rfl)) (by rw [show (gOpen z nv p0).2 = z from by first | rfl | (simp only [gOpen, mOpenS, eq_false c_1, if_true, if_false, and_true, true_and, and_false, false_and, or_true, true_or, or_false, false_or, not_true_eq_false, not_false_eq_true, ne_eq, ite_true, ite_false]; done) | (simp only [gOpen, mOpenS, eq_false c_1, if_true, if_false, and_true, true_and, and_false, false_and, or_true, true_or, or_false, false_or, not_true_eq_false, not_false_eq_true, ne_eq, ite_true, ite_false]; rfl)]; exact hP) (by rw [show (gOpen z nv p0).2 = z from by first | rfl | (simp only [gOpen, mOpenS, eq_false c_1, if_true, if_false, and_true, true_and, and_false, false_and, or_true, true_or, or_false, false_or, not_true_eq_false, not_false_eq_true, ne_eq, ite_true, ite_false]; done) | (simp only [gOpen, mOpenS, eq_false c_1, if_true, if_false, and_true, true_and, and_false, false_and, or_true, true_or, or_false, false_or, not_true_eq_false, not_false_eq_true, ne_eq, ite_true, ite_false]; rfl)]; exact hD) hS dX5_open_9
theorem cd_X5_open : yX5_open.cls = RX5 ∧ yX5_open.cls ≠ "java/lang/invoke/MethodHandle" ∧ yX5_open.cls ≠ "java/lang/invoke/VarHandle" ∧ (parseMethodDescriptor yX5_open.desc).map (fun d => d.parameters.length) = some 1 := by decide +kernel
-- X5_server
set_option maxHeartbeats 4000000 in
set_option maxRecDepth 100000 in
theorem c_X5_server (l : Launch) (G : va_G) (cI cQ : ClassId) (q : Nat → Nat) (z : MS) (nv nj : Nat) (hm : MI (kMs z) nv nj) (p0 : Int32) (p1 : Int32) : Met l yX5_server wsX5_server ({ frames := 3, cells := 0, slots := 0, locals := 65 } : Room) (pPc G cI cQ [.ref (q 0), .int p0, .int p1] ((mdT cI q z))) (vp_Si (fun r => r = rMServer (kMs z) nv nj p0 p1)) 0 0 (fun _ => False) := by
  refine pm_of (cc := cX5_server) (maxL := 3) (ret := (some .int)) (own := RX5) (by decide) rfl rfl (Nat.le_of_ble_eq_true rfl) rfl ?_
  intro p e s m below meth cd ls hx hb hr hts hown hlocks hml hK hP hl
  refine lv_aload_n hx hb dX5_server_0 rfl (lv_at hl 0 rfl) ?_
  refine lv_iload_n hx hb dX5_server_1 rfl (lv_at hl 1 rfl) ?_
  refine pcV (rest := []) ⟨hx, hb, hml, hown, hts⟩ (c_X5_isServer l G cI cQ q z nv nj hm p0) (cwV 1 hts gX5_server_X5_isServer rfl rfl rfl cd_X5_isServer ⟨Nat.le_of_ble_eq_true rfl, Nat.le_of_ble_eq_true rfl⟩) hK hP [0, 1, 2, 3, 4, 5, 6] rfl 0 rfl rfl rfl rfl hl.1 rfl (Nat.le_of_ble_eq_true rfl) dX5_server_2 ⟨Nat.zero_le _, Nat.zero_le _⟩ ?_
  refine lv_if_eq (tgt := 17) hx hb dX5_server_5 (by decide) (fun c_1 => ?_) (fun c_1 => ?_)
  · skip
    have c_1 := bI_0.mp c_1
    refine lv_iconst (v := (-1)) hx hb dX5_server_17 (by decide) ?_
    exact p_ret hx hb hr hlocks rfl (by first | rfl | (simp only [rMServer, eq_false c_1, if_true, if_false, and_true, true_and, and_false, false_and, or_true, true_or, or_false, false_or, not_true_eq_false, not_false_eq_true, ne_eq, ite_true, ite_false]; done) | (simp only [rMServer, eq_false c_1, if_true, if_false, and_true, true_and, and_false, false_and, or_true, true_or, or_false, false_or, not_true_eq_false, not_false_eq_true, ne_eq, ite_true, ite_false]; rfl)) dX5_server_18
  · skip
    have c_1 := bI_n0.mp c_1
    refine lv_iload_n hx hb dX5_server_8 rfl (lv_at hl 2 rfl) ?_
    refine lv_iconst (v := 0) hx hb dX5_server_9 (by decide) ?_
    refine lv_iconst (v := 4) hx hb dX5_server_10 (by decide) ?_
    refine pcS (rest := []) ⟨hx, hb, hml, hown, hts⟩ (c_X5_in l G cI cQ p1 0 4) (cwS 3 hts gX5_server_X5_in rfl rfl rfl cd_X5_in ⟨Nat.le_of_ble_eq_true rfl, Nat.le_of_ble_eq_true rfl⟩) hK hP [] rfl rfl hl.1 rfl (Nat.le_of_ble_eq_true rfl) dX5_server_11 ⟨Nat.zero_le _, Nat.zero_le _⟩ ?_
    refine lv_if_ne (tgt := 19) hx hb dX5_server_14 (by decide) (fun c_2 => ?_) (fun c_2 => ?_)
    · skip
      have c_2 := bI_n0.mp c_2
      refine lv_iload_n hx hb dX5_server_19 rfl (lv_at hl 2 rfl) ?_
      by_cases c_3 : p1 = 0
      · skip
        refine lv_tableIn (tgt := 52) (off := 32) hx hb dX5_server_20 (by rw [c_3]; decide) (by rw [c_3]; decide) (by rw [c_3]; rfl) (by decide) ?_
        refine lv_aload_n hx hb dX5_server_52 rfl (lv_at hl 0 rfl) ?_
        refine lv_iload_n hx hb dX5_server_53 rfl (lv_at hl 1 rfl) ?_
        refine pcV (rest := []) ⟨hx, hb, hml, hown, hts⟩ (c_X5_isOpen l G cI cQ q z nv nj hm p0) (cwV 1 hts gX5_server_X5_isOpen rfl rfl rfl cd_X5_isOpen ⟨Nat.le_of_ble_eq_true rfl, Nat.le_of_ble_eq_true rfl⟩) hK hP [0, 1, 2, 3, 4, 5, 6] rfl 0 rfl rfl rfl rfl hl.1 rfl (Nat.le_of_ble_eq_true rfl) dX5_server_54 ⟨Nat.zero_le _, Nat.zero_le _⟩ ?_
        refine lv_if_eq (tgt := 64) hx hb dX5_server_57 (by decide) (fun c_4 => ?_) (fun c_4 => ?_)
        · skip
          have c_4 := bI_0.mp c_4
          refine lv_iconst (v := 0) hx hb dX5_server_64 (by decide) ?_
          exact p_ret hx hb hr hlocks rfl (by first | rfl | (simp only [rMServer, eq_true c_1, eq_true c_2, eq_true c_3, eq_true (Eq.symm c_3), eq_false c_4, if_true, if_false, and_true, true_and, and_false, false_and, or_true, true_or, or_false, false_or, not_true_eq_false, not_false_eq_true, ne_eq, ite_true, ite_false]; done) | (simp only [rMServer, eq_true c_1, eq_true c_2, eq_true c_3, eq_true (Eq.symm c_3), eq_false c_4, if_true, if_false, and_true, true_and, and_false, false_and, or_true, true_or, or_false, false_or, not_true_eq_false, not_false_eq_true, ne_eq, ite_true, ite_false]; rfl)) dX5_server_65
        · skip
          have c_4 := bI_n0.mp c_4
          refine lv_iconst (v := 1) hx hb dX5_server_60 (by decide) ?_
          refine lv_goto (tgt := 65) hx hb dX5_server_61 (by decide) ?_
          exact p_ret hx hb hr hlocks rfl (by first | rfl | (simp only [rMServer, eq_true c_1, eq_true c_2, eq_true c_3, eq_true (Eq.symm c_3), eq_true c_4, if_true, if_false, and_true, true_and, and_false, false_and, or_true, true_or, or_false, false_or, not_true_eq_false, not_false_eq_true, ne_eq, ite_true, ite_false]; done) | (simp only [rMServer, eq_true c_1, eq_true c_2, eq_true c_3, eq_true (Eq.symm c_3), eq_true c_4, if_true, if_false, and_true, true_and, and_false, false_and, or_true, true_or, or_false, false_or, not_true_eq_false, not_false_eq_true, ne_eq, ite_true, ite_false]; rfl)) dX5_server_65
      by_cases c_5 : p1 = 1
      · skip
        refine lv_tableIn (tgt := 66) (off := 46) hx hb dX5_server_20 (by rw [c_5]; decide) (by rw [c_5]; decide) (by rw [c_5]; rfl) (by decide) ?_
        refine lv_aload_n hx hb dX5_server_66 rfl (lv_at hl 0 rfl) ?_
        refine lv_iload_n hx hb dX5_server_67 rfl (lv_at hl 1 rfl) ?_
        refine pcV (rest := []) ⟨hx, hb, hml, hown, hts⟩ (c_X5_load l G cI cQ q z nv nj hm p0) (cwV 1 hts gX5_server_X5_load rfl rfl rfl cd_X5_load ⟨Nat.le_of_ble_eq_true rfl, Nat.le_of_ble_eq_true rfl⟩) hK hP [0, 1, 2, 3, 4, 5, 6] rfl 0 rfl rfl rfl rfl hl.1 rfl (Nat.le_of_ble_eq_true rfl) dX5_server_68 ⟨Nat.zero_le _, Nat.zero_le _⟩ ?_
        exact p_ret hx hb hr hlocks rfl (by first | rfl | (simp only [rMServer, eq_true c_1, eq_true c_2, eq_false c_3, eq_false (Ne.symm c_3), eq_true c_5, eq_true (Eq.symm c_5), if_true, if_false, and_true, true_and, and_false, false_and, or_true, true_or, or_false, false_or, not_true_eq_false, not_false_eq_true, ne_eq, ite_true, ite_false]; done) | (simp only [rMServer, eq_true c_1, eq_true c_2, eq_false c_3, eq_false (Ne.symm c_3), eq_true c_5, eq_true (Eq.symm c_5), if_true, if_false, and_true, true_and, and_false, false_and, or_true, true_or, or_false, false_or, not_true_eq_false, not_false_eq_true, ne_eq, ite_true, ite_false]; rfl)) dX5_server_71
      by_cases c_6 : p1 = 2
      · skip
        refine lv_tableIn (tgt := 72) (off := 52) hx hb dX5_server_20 (by rw [c_6]; decide) (by rw [c_6]; decide) (by rw [c_6]; rfl) (by decide) ?_
        refine lv_aload_n hx hb dX5_server_72 rfl (lv_at hl 0 rfl) ?_
        refine lv_iload_n hx hb dX5_server_73 rfl (lv_at hl 1 rfl) ?_
        refine pcV (rest := []) ⟨hx, hb, hml, hown, hts⟩ (c_X5_manyOn l G cI cQ q z nv nj hm p0) (cwV 1 hts gX5_server_X5_manyOn rfl rfl rfl cd_X5_manyOn ⟨Nat.le_of_ble_eq_true rfl, Nat.le_of_ble_eq_true rfl⟩) hK hP [0, 1, 2, 3, 4, 5, 6] rfl 0 rfl rfl rfl rfl hl.1 rfl (Nat.le_of_ble_eq_true rfl) dX5_server_74 ⟨Nat.zero_le _, Nat.zero_le _⟩ ?_
        exact p_ret hx hb hr hlocks rfl (by first | rfl | (simp only [rMServer, eq_true c_1, eq_true c_2, eq_false c_3, eq_false (Ne.symm c_3), eq_false c_5, eq_false (Ne.symm c_5), eq_true c_6, eq_true (Eq.symm c_6), if_true, if_false, and_true, true_and, and_false, false_and, or_true, true_or, or_false, false_or, not_true_eq_false, not_false_eq_true, ne_eq, ite_true, ite_false]; done) | (simp only [rMServer, eq_true c_1, eq_true c_2, eq_false c_3, eq_false (Ne.symm c_3), eq_false c_5, eq_false (Ne.symm c_5), eq_true c_6, eq_true (Eq.symm c_6), if_true, if_false, and_true, true_and, and_false, false_and, or_true, true_or, or_false, false_or, not_true_eq_false, not_false_eq_true, ne_eq, ite_true, ite_false]; rfl)) dX5_server_77
      by_cases c_7 : p1 = 3
      · skip
        refine lv_tableIn (tgt := 78) (off := 58) hx hb dX5_server_20 (by rw [c_7]; decide) (by rw [c_7]; decide) (by rw [c_7]; rfl) (by decide) ?_
        refine lv_aload_n hx hb dX5_server_78 rfl (lv_at hl 0 rfl) ?_
        refine pcV (rest := []) ⟨hx, hb, hml, hown, hts⟩ (c_X5_allLoads l G cI cQ q z nv nj hm) (cwV 0 hts gX5_server_X5_allLoads rfl rfl rfl cd_X5_allLoads ⟨Nat.le_of_ble_eq_true rfl, Nat.le_of_ble_eq_true rfl⟩) hK hP [0, 1, 2, 3, 4, 5, 6] rfl 0 rfl rfl rfl rfl hl.1 rfl (Nat.le_of_ble_eq_true rfl) dX5_server_79 ⟨Nat.zero_le _, Nat.zero_le _⟩ ?_
        refine lv_if_ne (tgt := 89) hx hb dX5_server_82 (by decide) (fun c_8 => ?_) (fun c_8 => ?_)
        · skip
          refine lv_sipush (v := 1000) hx hb dX5_server_89 (by decide) ?_
          refine lv_aload_n hx hb dX5_server_92 rfl (lv_at hl 0 rfl) ?_
          refine lv_iload_n hx hb dX5_server_93 rfl (lv_at hl 1 rfl) ?_
          refine pcV (rest := [.int 1000]) ⟨hx, hb, hml, hown, hts⟩ (c_X5_load l G cI cQ q z nv nj hm p0) (cwV 1 hts gX5_server_X5_load rfl rfl rfl cd_X5_load ⟨Nat.le_of_ble_eq_true rfl, Nat.le_of_ble_eq_true rfl⟩) hK hP [0, 1, 2, 3, 4, 5, 6] rfl 0 rfl rfl rfl rfl hl.1 rfl (Nat.le_of_ble_eq_true rfl) dX5_server_94 ⟨Nat.zero_le _, Nat.zero_le _⟩ ?_
          refine lv_imul hx hb dX5_server_97 ?_
          refine lv_aload_n hx hb dX5_server_98 rfl (lv_at hl 0 rfl) ?_
          refine pcV (rest := [.int (1000 * (mLoad (kMs z) nj p0))]) ⟨hx, hb, hml, hown, hts⟩ (c_X5_allLoads l G cI cQ q z nv nj hm) (cwV 0 hts gX5_server_X5_allLoads rfl rfl rfl cd_X5_allLoads ⟨Nat.le_of_ble_eq_true rfl, Nat.le_of_ble_eq_true rfl⟩) hK hP [0, 1, 2, 3, 4, 5, 6] rfl 0 rfl rfl rfl rfl hl.1 rfl (Nat.le_of_ble_eq_true rfl) dX5_server_99 ⟨Nat.zero_le _, Nat.zero_le _⟩ ?_
          refine lv_idiv hx hb dX5_server_102 c_8 ?_
          exact p_ret hx hb hr hlocks rfl (by first | rfl | (simp only [rMServer, eq_true c_1, eq_true c_2, eq_false c_3, eq_false (Ne.symm c_3), eq_false c_5, eq_false (Ne.symm c_5), eq_false c_6, eq_false (Ne.symm c_6), eq_true c_7, eq_true (Eq.symm c_7), eq_false c_8, eq_false (Ne.symm c_8), if_true, if_false, and_true, true_and, and_false, false_and, or_true, true_or, or_false, false_or, not_true_eq_false, not_false_eq_true, ne_eq, ite_true, ite_false]; done) | (simp only [rMServer, eq_true c_1, eq_true c_2, eq_false c_3, eq_false (Ne.symm c_3), eq_false c_5, eq_false (Ne.symm c_5), eq_false c_6, eq_false (Ne.symm c_6), eq_true c_7, eq_true (Eq.symm c_7), eq_false c_8, eq_false (Ne.symm c_8), if_true, if_false, and_true, true_and, and_false, false_and, or_true, true_or, or_false, false_or, not_true_eq_false, not_false_eq_true, ne_eq, ite_true, ite_false]; rfl)) dX5_server_103
        · skip
          refine lv_iconst (v := 0) hx hb dX5_server_85 (by decide) ?_
          refine lv_goto (tgt := 103) hx hb dX5_server_86 (by decide) ?_
          exact p_ret hx hb hr hlocks rfl (by first | rfl | (simp only [rMServer, eq_true c_1, eq_true c_2, eq_false c_3, eq_false (Ne.symm c_3), eq_false c_5, eq_false (Ne.symm c_5), eq_false c_6, eq_false (Ne.symm c_6), eq_true c_7, eq_true (Eq.symm c_7), eq_true c_8, eq_true (Eq.symm c_8), if_true, if_false, and_true, true_and, and_false, false_and, or_true, true_or, or_false, false_or, not_true_eq_false, not_false_eq_true, ne_eq, ite_true, ite_false]; done) | (simp only [rMServer, eq_true c_1, eq_true c_2, eq_false c_3, eq_false (Ne.symm c_3), eq_false c_5, eq_false (Ne.symm c_5), eq_false c_6, eq_false (Ne.symm c_6), eq_true c_7, eq_true (Eq.symm c_7), eq_true c_8, eq_true (Eq.symm c_8), if_true, if_false, and_true, true_and, and_false, false_and, or_true, true_or, or_false, false_or, not_true_eq_false, not_false_eq_true, ne_eq, ite_true, ite_false]; rfl)) dX5_server_103
      refine sw_def (tgt := 104) hx hb dX5_server_20 (sw_tab 4 (by decide) (by decide) (by decide) (fun k hk e => by rcases (show k = 0 ∨ k = 1 ∨ k = 2 ∨ k = 3 by omega) with rfl | rfl | rfl | rfl <;> first | rfl | exact absurd (e.trans (by decide)) c_3 | exact absurd (e.trans (by decide)) c_5 | exact absurd (e.trans (by decide)) c_6 | exact absurd (e.trans (by decide)) c_7)) (by decide) ?_
      refine lv_aload_n hx hb dX5_server_104 rfl (lv_at hl 0 rfl) ?_
      refine lv_iload_n hx hb dX5_server_105 rfl (lv_at hl 1 rfl) ?_
      refine pcV (rest := []) ⟨hx, hb, hml, hown, hts⟩ (c_X5_jobsOn l G cI cQ q z nv nj hm p0) (cwV 1 hts gX5_server_X5_jobsOn rfl rfl rfl cd_X5_jobsOn ⟨Nat.le_of_ble_eq_true rfl, Nat.le_of_ble_eq_true rfl⟩) hK hP [0, 1, 2, 3, 4, 5, 6] rfl 0 rfl rfl rfl rfl hl.1 rfl (Nat.le_of_ble_eq_true rfl) dX5_server_106 ⟨Nat.zero_le _, Nat.zero_le _⟩ ?_
      exact p_ret hx hb hr hlocks rfl (by first | rfl | (simp only [rMServer, eq_true c_1, eq_true c_2, eq_false c_3, eq_false (Ne.symm c_3), eq_false c_5, eq_false (Ne.symm c_5), eq_false c_6, eq_false (Ne.symm c_6), eq_false c_7, eq_false (Ne.symm c_7), if_true, if_false, and_true, true_and, and_false, false_and, or_true, true_or, or_false, false_or, not_true_eq_false, not_false_eq_true, ne_eq, ite_true, ite_false]; done) | (simp only [rMServer, eq_true c_1, eq_true c_2, eq_false c_3, eq_false (Ne.symm c_3), eq_false c_5, eq_false (Ne.symm c_5), eq_false c_6, eq_false (Ne.symm c_6), eq_false c_7, eq_false (Ne.symm c_7), if_true, if_false, and_true, true_and, and_false, false_and, or_true, true_or, or_false, false_or, not_true_eq_false, not_false_eq_true, ne_eq, ite_true, ite_false]; rfl)) dX5_server_109
    · skip
      have c_2 := bI_0.mp c_2
      refine lv_iconst (v := (-1)) hx hb dX5_server_17 (by decide) ?_
      exact p_ret hx hb hr hlocks rfl (by first | rfl | (simp only [rMServer, eq_true c_1, eq_false c_2, if_true, if_false, and_true, true_and, and_false, false_and, or_true, true_or, or_false, false_or, not_true_eq_false, not_false_eq_true, ne_eq, ite_true, ite_false]; done) | (simp only [rMServer, eq_true c_1, eq_false c_2, if_true, if_false, and_true, true_and, and_false, false_and, or_true, true_or, or_false, false_or, not_true_eq_false, not_false_eq_true, ne_eq, ite_true, ite_false]; rfl)) dX5_server_18
theorem cd_X5_server : yX5_server.cls = RX5 ∧ yX5_server.cls ≠ "java/lang/invoke/MethodHandle" ∧ yX5_server.cls ≠ "java/lang/invoke/VarHandle" ∧ (parseMethodDescriptor yX5_server.desc).map (fun d => d.parameters.length) = some 2 := by decide +kernel
-- X5_job
set_option maxHeartbeats 4000000 in
set_option maxRecDepth 100000 in
theorem c_X5_job (l : Launch) (G : va_G) (cI cQ : ClassId) (q : Nat → Nat) (z : MS) (nv nj : Nat) (hm : MI (kMs z) nv nj) (p0 : Int32) (p1 : Int32) : Met l yX5_job wsX5_job ({ frames := 2, cells := 0, slots := 0, locals := 43 } : Room) (pPc G cI cQ [.ref (q 0), .int p0, .int p1] ((mdT cI q z))) (vp_Si (fun r => r = rMJob (kMs z) nj p0 p1)) 0 0 (fun _ => False) := by
  refine pm_of (cc := cX5_job) (maxL := 3) (ret := (some .int)) (own := RX5) (by decide) rfl rfl (Nat.le_of_ble_eq_true rfl) rfl ?_
  intro p e s m below meth cd ls hx hb hr hts hown hlocks hml hK hP hl
  refine lv_aload_n hx hb dX5_job_0 rfl (lv_at hl 0 rfl) ?_
  refine lv_iload_n hx hb dX5_job_1 rfl (lv_at hl 1 rfl) ?_
  refine pcV (rest := []) ⟨hx, hb, hml, hown, hts⟩ (c_X5_isJob l G cI cQ q z nv nj hm p0) (cwV 1 hts gX5_job_X5_isJob rfl rfl rfl cd_X5_isJob ⟨Nat.le_of_ble_eq_true rfl, Nat.le_of_ble_eq_true rfl⟩) hK hP [0, 1, 2, 3, 4, 5, 6] rfl 0 rfl rfl rfl rfl hl.1 rfl (Nat.le_of_ble_eq_true rfl) dX5_job_2 ⟨Nat.zero_le _, Nat.zero_le _⟩ ?_
  refine lv_if_eq (tgt := 26) hx hb dX5_job_5 (by decide) (fun c_1 => ?_) (fun c_1 => ?_)
  · skip
    have c_1 := bI_0.mp c_1
    refine lv_iconst (v := (-1)) hx hb dX5_job_26 (by decide) ?_
    exact p_ret hx hb hr hlocks rfl (by first | rfl | (simp only [rMJob, eq_false c_1, if_true, if_false, and_true, true_and, and_false, false_and, or_true, true_or, or_false, false_or, not_true_eq_false, not_false_eq_true, ne_eq, ite_true, ite_false]; done) | (simp only [rMJob, eq_false c_1, if_true, if_false, and_true, true_and, and_false, false_and, or_true, true_or, or_false, false_or, not_true_eq_false, not_false_eq_true, ne_eq, ite_true, ite_false]; rfl)) dX5_job_27
  · skip
    have c_1 := bI_n0.mp c_1
    refine lv_iload_n hx hb dX5_job_8 rfl (lv_at hl 2 rfl) ?_
    refine lv_iconst (v := 0) hx hb dX5_job_9 (by decide) ?_
    refine lv_iconst (v := 3) hx hb dX5_job_10 (by decide) ?_
    refine pcS (rest := []) ⟨hx, hb, hml, hown, hts⟩ (c_X5_in l G cI cQ p1 0 3) (cwS 3 hts gX5_job_X5_in rfl rfl rfl cd_X5_in ⟨Nat.le_of_ble_eq_true rfl, Nat.le_of_ble_eq_true rfl⟩) hK hP [] rfl rfl hl.1 rfl (Nat.le_of_ble_eq_true rfl) dX5_job_11 ⟨Nat.zero_le _, Nat.zero_le _⟩ ?_
    refine lv_if_eq (tgt := 26) hx hb dX5_job_14 (by decide) (fun c_2 => ?_) (fun c_2 => ?_)
    · skip
      have c_2 := bI_0.mp c_2
      refine lv_iconst (v := (-1)) hx hb dX5_job_26 (by decide) ?_
      exact p_ret hx hb hr hlocks rfl (by first | rfl | (simp only [rMJob, eq_true c_1, eq_false c_2, if_true, if_false, and_true, true_and, and_false, false_and, or_true, true_or, or_false, false_or, not_true_eq_false, not_false_eq_true, ne_eq, ite_true, ite_false]; done) | (simp only [rMJob, eq_true c_1, eq_false c_2, if_true, if_false, and_true, true_and, and_false, false_and, or_true, true_or, or_false, false_or, not_true_eq_false, not_false_eq_true, ne_eq, ite_true, ite_false]; rfl)) dX5_job_27
    · skip
      have c_2 := bI_n0.mp c_2
      refine lv_aload_n hx hb dX5_job_17 rfl (lv_at hl 0 rfl) ?_
      refine lv_iload_n hx hb dX5_job_18 rfl (lv_at hl 1 rfl) ?_
      refine lv_iload_n hx hb dX5_job_19 rfl (lv_at hl 2 rfl) ?_
      refine pcV (rest := []) ⟨hx, hb, hml, hown, hts⟩ (c_X5_of l G cI cQ q z nv nj hm p0 p1 (has_in c_1 hm.2.2.2) (in03 c_2)) (cwV 2 hts gX5_job_X5_of rfl rfl rfl cd_X5_of ⟨Nat.le_of_ble_eq_true rfl, Nat.le_of_ble_eq_true rfl⟩) hK hP [0, 1, 2, 3, 4, 5, 6] rfl 0 rfl rfl rfl rfl hl.1 rfl (Nat.le_of_ble_eq_true rfl) dX5_job_20 ⟨Nat.zero_le _, Nat.zero_le _⟩ ?_
      refine lv_goto (tgt := 27) hx hb dX5_job_23 (by decide) ?_
      exact p_ret hx hb hr hlocks rfl (by first | rfl | (simp only [rMJob, eq_true c_1, eq_true c_2, if_true, if_false, and_true, true_and, and_false, false_and, or_true, true_or, or_false, false_or, not_true_eq_false, not_false_eq_true, ne_eq, ite_true, ite_false]; done) | (simp only [rMJob, eq_true c_1, eq_true c_2, if_true, if_false, and_true, true_and, and_false, false_and, or_true, true_or, or_false, false_or, not_true_eq_false, not_false_eq_true, ne_eq, ite_true, ite_false]; rfl)) dX5_job_27
theorem cd_X5_job : yX5_job.cls = RX5 ∧ yX5_job.cls ≠ "java/lang/invoke/MethodHandle" ∧ yX5_job.cls ≠ "java/lang/invoke/VarHandle" ∧ (parseMethodDescriptor yX5_job.desc).map (fun d => d.parameters.length) = some 2 := by decide +kernel
-- X5_count
theorem lk_X5_count_1 : Cond.fieldLink RX5 7 "EvenLoadsModel" "s" "[I" ∈ wsX5_count := List.mem_of_getElem? (i := 1) (by decide +kernel)
theorem lk_X5_count_2 : Cond.fieldLink RX5 28 "EvenLoadsModel" "kept" "I" ∈ wsX5_count := List.mem_of_getElem? (i := 2) (by decide +kernel)
theorem lk_X5_count_3 : Cond.fieldLink RX5 157 "EvenLoadsModel" "typed" "I" ∈ wsX5_count := List.mem_of_getElem? (i := 3) (by decide +kernel)
theorem in_X5_count_X5 : ∀ w ∈ wsX50, w ∈ wsX5_count := by decide +kernel
set_option maxHeartbeats 4000000 in
set_option maxRecDepth 100000 in
theorem c_X5_count (l : Launch) (G : va_G) (cI cQ : ClassId) (q : Nat → Nat) (z : MS) (nv nj : Nat) (hm : MI (kMs z) nv nj) (p0 : Int32) : Met l yX5_count wsX5_count ({ frames := 6, cells := 0, slots := 0, locals := 127 } : Room) (pPc G cI cQ [.ref (q 0), .int p0] ((mdT cI q z))) (vp_Si (fun r => r = rMCount z nv nj p0)) 0 0 (fun _ => False) := by
  refine pm_of (cc := cX5_count) (maxL := 2) (ret := (some .int)) (own := RX5) (by decide) rfl rfl (Nat.le_of_ble_eq_true rfl) rfl ?_
  intro p e s m below meth cd ls hx hb hr hts hown hlocks hml hK hP hl
  refine lv_iload_n hx hb dX5_count_0 rfl (lv_at hl 1 rfl) ?_
  by_cases c_1 : p0 = 0
  · skip
    refine lv_tableIn (tgt := 76) (off := 75) hx hb dX5_count_1 (by rw [c_1]; decide) (by rw [c_1]; decide) (by rw [c_1]; rfl) (by decide) ?_
    refine lv_aload_n hx hb dX5_count_76 rfl (lv_at hl 0 rfl) ?_
    refine va_get (D := G) (ci := 5) (v := .ref (q 1)) (C := RX5) (T := TX5) (N := 15) hx hb hts in_X5_count_X5 hown hK.1 hP 0 rfl rfl 0 (by decide) (hts _ lk_X5_count_1) (fun _ h9 => h9) rfl dX5_count_77 ?_
    refine lv_iconst (v := 0) hx hb dX5_count_80 (by decide) ?_
    refine iald_n hx hb hK hP 1 rfl 0 rfl (by decide) (by decide) dX5_count_81 ?_
    refine lv_cvt (y := (nI nv)) (hm).1 ?_
    exact p_ret hx hb hr hlocks rfl (by first | rfl | (simp only [rMCount, eq_true c_1, eq_true (Eq.symm c_1), if_true, if_false, and_true, true_and, and_false, false_and, or_true, true_or, or_false, false_or, not_true_eq_false, not_false_eq_true, ne_eq, ite_true, ite_false]; done) | (simp only [rMCount, eq_true c_1, eq_true (Eq.symm c_1), if_true, if_false, and_true, true_and, and_false, false_and, or_true, true_or, or_false, false_or, not_true_eq_false, not_false_eq_true, ne_eq, ite_true, ite_false]; rfl)) dX5_count_82
  by_cases c_2 : p0 = 1
  · skip
    refine lv_tableIn (tgt := 83) (off := 82) hx hb dX5_count_1 (by rw [c_2]; decide) (by rw [c_2]; decide) (by rw [c_2]; rfl) (by decide) ?_
    refine lv_aload_n hx hb dX5_count_83 rfl (lv_at hl 0 rfl) ?_
    refine pcV (rest := []) ⟨hx, hb, hml, hown, hts⟩ (c_X5_opens l G cI cQ q z nv nj hm) (cwV 0 hts gX5_count_X5_opens rfl rfl rfl cd_X5_opens ⟨Nat.le_of_ble_eq_true rfl, Nat.le_of_ble_eq_true rfl⟩) hK hP [0, 1, 2, 3, 4, 5, 6] rfl 0 rfl rfl rfl rfl hl.1 rfl (Nat.le_of_ble_eq_true rfl) dX5_count_84 ⟨Nat.zero_le _, Nat.zero_le _⟩ ?_
    exact p_ret hx hb hr hlocks rfl (by first | rfl | (simp only [rMCount, eq_false c_1, eq_false (Ne.symm c_1), eq_true c_2, eq_true (Eq.symm c_2), if_true, if_false, and_true, true_and, and_false, false_and, or_true, true_or, or_false, false_or, not_true_eq_false, not_false_eq_true, ne_eq, ite_true, ite_false]; done) | (simp only [rMCount, eq_false c_1, eq_false (Ne.symm c_1), eq_true c_2, eq_true (Eq.symm c_2), if_true, if_false, and_true, true_and, and_false, false_and, or_true, true_or, or_false, false_or, not_true_eq_false, not_false_eq_true, ne_eq, ite_true, ite_false]; rfl)) dX5_count_87
  by_cases c_3 : p0 = 2
  · skip
    refine lv_tableIn (tgt := 88) (off := 87) hx hb dX5_count_1 (by rw [c_3]; decide) (by rw [c_3]; decide) (by rw [c_3]; rfl) (by decide) ?_
    refine lv_aload_n hx hb dX5_count_88 rfl (lv_at hl 0 rfl) ?_
    refine va_get (D := G) (ci := 5) (v := .ref (q 1)) (C := RX5) (T := TX5) (N := 15) hx hb hts in_X5_count_X5 hown hK.1 hP 0 rfl rfl 0 (by decide) (hts _ lk_X5_count_1) (fun _ h9 => h9) rfl dX5_count_89 ?_
    refine lv_iconst (v := 2) hx hb dX5_count_92 (by decide) ?_
    refine iald_n hx hb hK hP 1 rfl 2 rfl (by decide) (by decide) dX5_count_93 ?_
    refine lv_cvt (y := (nI nj)) (hm).2.2.1 ?_
    exact p_ret hx hb hr hlocks rfl (by first | rfl | (simp only [rMCount, eq_false c_1, eq_false (Ne.symm c_1), eq_false c_2, eq_false (Ne.symm c_2), eq_true c_3, eq_true (Eq.symm c_3), if_true, if_false, and_true, true_and, and_false, false_and, or_true, true_or, or_false, false_or, not_true_eq_false, not_false_eq_true, ne_eq, ite_true, ite_false]; done) | (simp only [rMCount, eq_false c_1, eq_false (Ne.symm c_1), eq_false c_2, eq_false (Ne.symm c_2), eq_true c_3, eq_true (Eq.symm c_3), if_true, if_false, and_true, true_and, and_false, false_and, or_true, true_or, or_false, false_or, not_true_eq_false, not_false_eq_true, ne_eq, ite_true, ite_false]; rfl)) dX5_count_94
  by_cases c_4 : p0 = 3
  · skip
    refine lv_tableIn (tgt := 95) (off := 94) hx hb dX5_count_1 (by rw [c_4]; decide) (by rw [c_4]; decide) (by rw [c_4]; rfl) (by decide) ?_
    refine lv_aload_n hx hb dX5_count_95 rfl (lv_at hl 0 rfl) ?_
    refine lv_bipush (v := (-9)) hx hb dX5_count_96 (by decide) ?_
    refine pcV (rest := []) ⟨hx, hb, hml, hown, hts⟩ (c_X5_manyOn l G cI cQ q z nv nj hm (-9)) (cwV 1 hts gX5_count_X5_manyOn rfl rfl rfl cd_X5_manyOn ⟨Nat.le_of_ble_eq_true rfl, Nat.le_of_ble_eq_true rfl⟩) hK hP [0, 1, 2, 3, 4, 5, 6] rfl 0 rfl rfl rfl rfl hl.1 rfl (Nat.le_of_ble_eq_true rfl) dX5_count_98 ⟨Nat.zero_le _, Nat.zero_le _⟩ ?_
    exact p_ret hx hb hr hlocks rfl (by first | rfl | (simp only [rMCount, eq_false c_1, eq_false (Ne.symm c_1), eq_false c_2, eq_false (Ne.symm c_2), eq_false c_3, eq_false (Ne.symm c_3), eq_true c_4, eq_true (Eq.symm c_4), if_true, if_false, and_true, true_and, and_false, false_and, or_true, true_or, or_false, false_or, not_true_eq_false, not_false_eq_true, ne_eq, ite_true, ite_false]; done) | (simp only [rMCount, eq_false c_1, eq_false (Ne.symm c_1), eq_false c_2, eq_false (Ne.symm c_2), eq_false c_3, eq_false (Ne.symm c_3), eq_true c_4, eq_true (Eq.symm c_4), if_true, if_false, and_true, true_and, and_false, false_and, or_true, true_or, or_false, false_or, not_true_eq_false, not_false_eq_true, ne_eq, ite_true, ite_false]; rfl)) dX5_count_101
  by_cases c_5 : p0 = 4
  · skip
    refine lv_tableIn (tgt := 102) (off := 101) hx hb dX5_count_1 (by rw [c_5]; decide) (by rw [c_5]; decide) (by rw [c_5]; rfl) (by decide) ?_
    refine lv_aload_n hx hb dX5_count_102 rfl (lv_at hl 0 rfl) ?_
    refine pcV (rest := []) ⟨hx, hb, hml, hown, hts⟩ (c_X5_allLoads l G cI cQ q z nv nj hm) (cwV 0 hts gX5_count_X5_allLoads rfl rfl rfl cd_X5_allLoads ⟨Nat.le_of_ble_eq_true rfl, Nat.le_of_ble_eq_true rfl⟩) hK hP [0, 1, 2, 3, 4, 5, 6] rfl 0 rfl rfl rfl rfl hl.1 rfl (Nat.le_of_ble_eq_true rfl) dX5_count_103 ⟨Nat.zero_le _, Nat.zero_le _⟩ ?_
    exact p_ret hx hb hr hlocks rfl (by first | rfl | (simp only [rMCount, eq_false c_1, eq_false (Ne.symm c_1), eq_false c_2, eq_false (Ne.symm c_2), eq_false c_3, eq_false (Ne.symm c_3), eq_false c_4, eq_false (Ne.symm c_4), eq_true c_5, eq_true (Eq.symm c_5), if_true, if_false, and_true, true_and, and_false, false_and, or_true, true_or, or_false, false_or, not_true_eq_false, not_false_eq_true, ne_eq, ite_true, ite_false]; done) | (simp only [rMCount, eq_false c_1, eq_false (Ne.symm c_1), eq_false c_2, eq_false (Ne.symm c_2), eq_false c_3, eq_false (Ne.symm c_3), eq_false c_4, eq_false (Ne.symm c_4), eq_true c_5, eq_true (Eq.symm c_5), if_true, if_false, and_true, true_and, and_false, false_and, or_true, true_or, or_false, false_or, not_true_eq_false, not_false_eq_true, ne_eq, ite_true, ite_false]; rfl)) dX5_count_106
  by_cases c_6 : p0 = 5
  · skip
    refine lv_tableIn (tgt := 107) (off := 106) hx hb dX5_count_1 (by rw [c_6]; decide) (by rw [c_6]; decide) (by rw [c_6]; rfl) (by decide) ?_
    refine lv_aload_n hx hb dX5_count_107 rfl (lv_at hl 0 rfl) ?_
    refine pcV (rest := []) ⟨hx, hb, hml, hown, hts⟩ (c_X5_greatest l G cI cQ q z nv nj hm) (cwV 0 hts gX5_count_X5_greatest rfl rfl rfl cd_X5_greatest ⟨Nat.le_of_ble_eq_true rfl, Nat.le_of_ble_eq_true rfl⟩) hK hP [0, 1, 2, 3, 4, 5, 6] rfl 0 rfl rfl rfl rfl hl.1 rfl (Nat.le_of_ble_eq_true rfl) dX5_count_108 ⟨Nat.zero_le _, Nat.zero_le _⟩ ?_
    exact p_ret hx hb hr hlocks rfl (by first | rfl | (simp only [rMCount, eq_false c_1, eq_false (Ne.symm c_1), eq_false c_2, eq_false (Ne.symm c_2), eq_false c_3, eq_false (Ne.symm c_3), eq_false c_4, eq_false (Ne.symm c_4), eq_false c_5, eq_false (Ne.symm c_5), eq_true c_6, eq_true (Eq.symm c_6), if_true, if_false, and_true, true_and, and_false, false_and, or_true, true_or, or_false, false_or, not_true_eq_false, not_false_eq_true, ne_eq, ite_true, ite_false]; done) | (simp only [rMCount, eq_false c_1, eq_false (Ne.symm c_1), eq_false c_2, eq_false (Ne.symm c_2), eq_false c_3, eq_false (Ne.symm c_3), eq_false c_4, eq_false (Ne.symm c_4), eq_false c_5, eq_false (Ne.symm c_5), eq_true c_6, eq_true (Eq.symm c_6), if_true, if_false, and_true, true_and, and_false, false_and, or_true, true_or, or_false, false_or, not_true_eq_false, not_false_eq_true, ne_eq, ite_true, ite_false]; rfl)) dX5_count_111
  by_cases c_7 : p0 = 6
  · skip
    refine lv_tableIn (tgt := 112) (off := 111) hx hb dX5_count_1 (by rw [c_7]; decide) (by rw [c_7]; decide) (by rw [c_7]; rfl) (by decide) ?_
    refine lv_aload_n hx hb dX5_count_112 rfl (lv_at hl 0 rfl) ?_
    refine va_get (D := G) (ci := 5) (v := .ref (q 1)) (C := RX5) (T := TX5) (N := 15) hx hb hts in_X5_count_X5 hown hK.1 hP 0 rfl rfl 0 (by decide) (hts _ lk_X5_count_1) (fun _ h9 => h9) rfl dX5_count_113 ?_
    refine lv_iconst (v := 0) hx hb dX5_count_116 (by decide) ?_
    refine iald_n hx hb hK hP 1 rfl 0 rfl (by decide) (by decide) dX5_count_117 ?_
    refine lv_cvt (y := (nI nv)) (hm).1 ?_
    refine lv_if_ne (tgt := 125) hx hb dX5_count_118 (by decide) (fun c_8 => ?_) (fun c_8 => ?_)
    · skip
      refine lv_aload_n hx hb dX5_count_125 rfl (lv_at hl 0 rfl) ?_
      refine lv_aload_n hx hb dX5_count_126 rfl (lv_at hl 0 rfl) ?_
      refine pcV (rest := [.ref (q 0)]) ⟨hx, hb, hml, hown, hts⟩ (c_X5_emptiest l G cI cQ q z nv nj hm) (cwV 0 hts gX5_count_X5_emptiest rfl rfl rfl cd_X5_emptiest ⟨Nat.le_of_ble_eq_true rfl, Nat.le_of_ble_eq_true rfl⟩) hK hP [0, 1, 2, 3, 4, 5, 6] rfl 0 rfl rfl rfl rfl hl.1 rfl (Nat.le_of_ble_eq_true rfl) dX5_count_127 ⟨Nat.zero_le _, Nat.zero_le _⟩ ?_
      refine pcV (rest := []) ⟨hx, hb, hml, hown, hts⟩ (c_X5_load l G cI cQ q z nv nj hm (mEmpty (kMs z) nv nj)) (cwV 1 hts gX5_count_X5_load rfl rfl rfl cd_X5_load ⟨Nat.le_of_ble_eq_true rfl, Nat.le_of_ble_eq_true rfl⟩) hK hP [0, 1, 2, 3, 4, 5, 6] rfl 0 rfl rfl rfl rfl hl.1 rfl (Nat.le_of_ble_eq_true rfl) dX5_count_130 ⟨Nat.zero_le _, Nat.zero_le _⟩ ?_
      exact p_ret hx hb hr hlocks rfl (by first | rfl | (simp only [rMCount, eq_false c_1, eq_false (Ne.symm c_1), eq_false c_2, eq_false (Ne.symm c_2), eq_false c_3, eq_false (Ne.symm c_3), eq_false c_4, eq_false (Ne.symm c_4), eq_false c_5, eq_false (Ne.symm c_5), eq_false c_6, eq_false (Ne.symm c_6), eq_true c_7, eq_true (Eq.symm c_7), eq_false c_8, eq_false (Ne.symm c_8), if_true, if_false, and_true, true_and, and_false, false_and, or_true, true_or, or_false, false_or, not_true_eq_false, not_false_eq_true, ne_eq, ite_true, ite_false]; done) | (simp only [rMCount, eq_false c_1, eq_false (Ne.symm c_1), eq_false c_2, eq_false (Ne.symm c_2), eq_false c_3, eq_false (Ne.symm c_3), eq_false c_4, eq_false (Ne.symm c_4), eq_false c_5, eq_false (Ne.symm c_5), eq_false c_6, eq_false (Ne.symm c_6), eq_true c_7, eq_true (Eq.symm c_7), eq_false c_8, eq_false (Ne.symm c_8), if_true, if_false, and_true, true_and, and_false, false_and, or_true, true_or, or_false, false_or, not_true_eq_false, not_false_eq_true, ne_eq, ite_true, ite_false]; rfl)) dX5_count_133
    · skip
      refine lv_iconst (v := 0) hx hb dX5_count_121 (by decide) ?_
      refine lv_goto (tgt := 133) hx hb dX5_count_122 (by decide) ?_
      exact p_ret hx hb hr hlocks rfl (by first | rfl | (simp only [rMCount, eq_false c_1, eq_false (Ne.symm c_1), eq_false c_2, eq_false (Ne.symm c_2), eq_false c_3, eq_false (Ne.symm c_3), eq_false c_4, eq_false (Ne.symm c_4), eq_false c_5, eq_false (Ne.symm c_5), eq_false c_6, eq_false (Ne.symm c_6), eq_true c_7, eq_true (Eq.symm c_7), eq_true c_8, eq_true (Eq.symm c_8), if_true, if_false, and_true, true_and, and_false, false_and, or_true, true_or, or_false, false_or, not_true_eq_false, not_false_eq_true, ne_eq, ite_true, ite_false]; done) | (simp only [rMCount, eq_false c_1, eq_false (Ne.symm c_1), eq_false c_2, eq_false (Ne.symm c_2), eq_false c_3, eq_false (Ne.symm c_3), eq_false c_4, eq_false (Ne.symm c_4), eq_false c_5, eq_false (Ne.symm c_5), eq_false c_6, eq_false (Ne.symm c_6), eq_true c_7, eq_true (Eq.symm c_7), eq_true c_8, eq_true (Eq.symm c_8), if_true, if_false, and_true, true_and, and_false, false_and, or_true, true_or, or_false, false_or, not_true_eq_false, not_false_eq_true, ne_eq, ite_true, ite_false]; rfl)) dX5_count_133
  by_cases c_9 : p0 = 7
  · skip
    refine lv_tableIn (tgt := 134) (off := 133) hx hb dX5_count_1 (by rw [c_9]; decide) (by rw [c_9]; decide) (by rw [c_9]; rfl) (by decide) ?_
    refine lv_aload_n hx hb dX5_count_134 rfl (lv_at hl 0 rfl) ?_
    refine pcV (rest := []) ⟨hx, hb, hml, hown, hts⟩ (c_X5_bound l G cI cQ q z nv nj hm) (cwV 0 hts gX5_count_X5_bound rfl rfl rfl cd_X5_bound ⟨Nat.le_of_ble_eq_true rfl, Nat.le_of_ble_eq_true rfl⟩) hK hP [0, 1, 2, 3, 4, 5, 6] rfl 0 rfl rfl rfl rfl hl.1 rfl (Nat.le_of_ble_eq_true rfl) dX5_count_135 ⟨Nat.zero_le _, Nat.zero_le _⟩ ?_
    exact p_ret hx hb hr hlocks rfl (by first | rfl | (simp only [rMCount, eq_false c_1, eq_false (Ne.symm c_1), eq_false c_2, eq_false (Ne.symm c_2), eq_false c_3, eq_false (Ne.symm c_3), eq_false c_4, eq_false (Ne.symm c_4), eq_false c_5, eq_false (Ne.symm c_5), eq_false c_6, eq_false (Ne.symm c_6), eq_false c_7, eq_false (Ne.symm c_7), eq_true c_9, eq_true (Eq.symm c_9), if_true, if_false, and_true, true_and, and_false, false_and, or_true, true_or, or_false, false_or, not_true_eq_false, not_false_eq_true, ne_eq, ite_true, ite_false]; done) | (simp only [rMCount, eq_false c_1, eq_false (Ne.symm c_1), eq_false c_2, eq_false (Ne.symm c_2), eq_false c_3, eq_false (Ne.symm c_3), eq_false c_4, eq_false (Ne.symm c_4), eq_false c_5, eq_false (Ne.symm c_5), eq_false c_6, eq_false (Ne.symm c_6), eq_false c_7, eq_false (Ne.symm c_7), eq_true c_9, eq_true (Eq.symm c_9), if_true, if_false, and_true, true_and, and_false, false_and, or_true, true_or, or_false, false_or, not_true_eq_false, not_false_eq_true, ne_eq, ite_true, ite_false]; rfl)) dX5_count_138
  by_cases c_10 : p0 = 8
  · skip
    refine lv_tableIn (tgt := 139) (off := 138) hx hb dX5_count_1 (by rw [c_10]; decide) (by rw [c_10]; decide) (by rw [c_10]; rfl) (by decide) ?_
    refine lv_aload_n hx hb dX5_count_139 rfl (lv_at hl 0 rfl) ?_
    refine pcV (rest := []) ⟨hx, hb, hml, hown, hts⟩ (c_X5_target l G cI cQ q z nv nj hm) (cwV 0 hts gX5_count_X5_target rfl rfl rfl cd_X5_target ⟨Nat.le_of_ble_eq_true rfl, Nat.le_of_ble_eq_true rfl⟩) hK hP [0, 1, 2, 3, 4, 5, 6] rfl 0 rfl rfl rfl rfl hl.1 rfl (Nat.le_of_ble_eq_true rfl) dX5_count_140 ⟨Nat.zero_le _, Nat.zero_le _⟩ ?_
    exact p_ret hx hb hr hlocks rfl (by first | rfl | (simp only [rMCount, eq_false c_1, eq_false (Ne.symm c_1), eq_false c_2, eq_false (Ne.symm c_2), eq_false c_3, eq_false (Ne.symm c_3), eq_false c_4, eq_false (Ne.symm c_4), eq_false c_5, eq_false (Ne.symm c_5), eq_false c_6, eq_false (Ne.symm c_6), eq_false c_7, eq_false (Ne.symm c_7), eq_false c_9, eq_false (Ne.symm c_9), eq_true c_10, eq_true (Eq.symm c_10), if_true, if_false, and_true, true_and, and_false, false_and, or_true, true_or, or_false, false_or, not_true_eq_false, not_false_eq_true, ne_eq, ite_true, ite_false]; done) | (simp only [rMCount, eq_false c_1, eq_false (Ne.symm c_1), eq_false c_2, eq_false (Ne.symm c_2), eq_false c_3, eq_false (Ne.symm c_3), eq_false c_4, eq_false (Ne.symm c_4), eq_false c_5, eq_false (Ne.symm c_5), eq_false c_6, eq_false (Ne.symm c_6), eq_false c_7, eq_false (Ne.symm c_7), eq_false c_9, eq_false (Ne.symm c_9), eq_true c_10, eq_true (Eq.symm c_10), if_true, if_false, and_true, true_and, and_false, false_and, or_true, true_or, or_false, false_or, not_true_eq_false, not_false_eq_true, ne_eq, ite_true, ite_false]; rfl)) dX5_count_143
  by_cases c_11 : p0 = 9
  · skip
    refine lv_tableIn (tgt := 144) (off := 143) hx hb dX5_count_1 (by rw [c_11]; decide) (by rw [c_11]; decide) (by rw [c_11]; rfl) (by decide) ?_
    refine lv_aload_n hx hb dX5_count_144 rfl (lv_at hl 0 rfl) ?_
    refine pcV (rest := []) ⟨hx, hb, hml, hown, hts⟩ (c_X5_areEven l G cI cQ q z nv nj hm) (cwV 0 hts gX5_count_X5_areEven rfl rfl rfl cd_X5_areEven ⟨Nat.le_of_ble_eq_true rfl, Nat.le_of_ble_eq_true rfl⟩) hK hP [0, 1, 2, 3, 4, 5, 6] rfl 0 rfl rfl rfl rfl hl.1 rfl (Nat.le_of_ble_eq_true rfl) dX5_count_145 ⟨Nat.zero_le _, Nat.zero_le _⟩ ?_
    refine lv_if_eq (tgt := 155) hx hb dX5_count_148 (by decide) (fun c_12 => ?_) (fun c_12 => ?_)
    · skip
      have c_12 := bI_0.mp c_12
      refine lv_iconst (v := 0) hx hb dX5_count_155 (by decide) ?_
      exact p_ret hx hb hr hlocks rfl (by first | rfl | (simp only [rMCount, eq_false c_1, eq_false (Ne.symm c_1), eq_false c_2, eq_false (Ne.symm c_2), eq_false c_3, eq_false (Ne.symm c_3), eq_false c_4, eq_false (Ne.symm c_4), eq_false c_5, eq_false (Ne.symm c_5), eq_false c_6, eq_false (Ne.symm c_6), eq_false c_7, eq_false (Ne.symm c_7), eq_false c_9, eq_false (Ne.symm c_9), eq_false c_10, eq_false (Ne.symm c_10), eq_true c_11, eq_true (Eq.symm c_11), eq_false c_12, if_true, if_false, and_true, true_and, and_false, false_and, or_true, true_or, or_false, false_or, not_true_eq_false, not_false_eq_true, ne_eq, ite_true, ite_false]; done) | (simp only [rMCount, eq_false c_1, eq_false (Ne.symm c_1), eq_false c_2, eq_false (Ne.symm c_2), eq_false c_3, eq_false (Ne.symm c_3), eq_false c_4, eq_false (Ne.symm c_4), eq_false c_5, eq_false (Ne.symm c_5), eq_false c_6, eq_false (Ne.symm c_6), eq_false c_7, eq_false (Ne.symm c_7), eq_false c_9, eq_false (Ne.symm c_9), eq_false c_10, eq_false (Ne.symm c_10), eq_true c_11, eq_true (Eq.symm c_11), eq_false c_12, if_true, if_false, and_true, true_and, and_false, false_and, or_true, true_or, or_false, false_or, not_true_eq_false, not_false_eq_true, ne_eq, ite_true, ite_false]; rfl)) dX5_count_156
    · skip
      have c_12 := bI_n0.mp c_12
      refine lv_iconst (v := 1) hx hb dX5_count_151 (by decide) ?_
      refine lv_goto (tgt := 156) hx hb dX5_count_152 (by decide) ?_
      exact p_ret hx hb hr hlocks rfl (by first | rfl | (simp only [rMCount, eq_false c_1, eq_false (Ne.symm c_1), eq_false c_2, eq_false (Ne.symm c_2), eq_false c_3, eq_false (Ne.symm c_3), eq_false c_4, eq_false (Ne.symm c_4), eq_false c_5, eq_false (Ne.symm c_5), eq_false c_6, eq_false (Ne.symm c_6), eq_false c_7, eq_false (Ne.symm c_7), eq_false c_9, eq_false (Ne.symm c_9), eq_false c_10, eq_false (Ne.symm c_10), eq_true c_11, eq_true (Eq.symm c_11), eq_true c_12, if_true, if_false, and_true, true_and, and_false, false_and, or_true, true_or, or_false, false_or, not_true_eq_false, not_false_eq_true, ne_eq, ite_true, ite_false]; done) | (simp only [rMCount, eq_false c_1, eq_false (Ne.symm c_1), eq_false c_2, eq_false (Ne.symm c_2), eq_false c_3, eq_false (Ne.symm c_3), eq_false c_4, eq_false (Ne.symm c_4), eq_false c_5, eq_false (Ne.symm c_5), eq_false c_6, eq_false (Ne.symm c_6), eq_false c_7, eq_false (Ne.symm c_7), eq_false c_9, eq_false (Ne.symm c_9), eq_false c_10, eq_false (Ne.symm c_10), eq_true c_11, eq_true (Eq.symm c_11), eq_true c_12, if_true, if_false, and_true, true_and, and_false, false_and, or_true, true_or, or_false, false_or, not_true_eq_false, not_false_eq_true, ne_eq, ite_true, ite_false]; rfl)) dX5_count_156
  by_cases c_13 : p0 = 10
  · skip
    refine lv_tableIn (tgt := 157) (off := 156) hx hb dX5_count_1 (by rw [c_13]; decide) (by rw [c_13]; decide) (by rw [c_13]; rfl) (by decide) ?_
    refine lv_aload_n hx hb dX5_count_157 rfl (lv_at hl 0 rfl) ?_
    refine va_get (D := G) (ci := 5) (v := .ref (q 1)) (C := RX5) (T := TX5) (N := 15) hx hb hts in_X5_count_X5 hown hK.1 hP 0 rfl rfl 0 (by decide) (hts _ lk_X5_count_1) (fun _ h9 => h9) rfl dX5_count_158 ?_
    refine lv_iconst (v := 3) hx hb dX5_count_161 (by decide) ?_
    refine iald_n hx hb hK hP 1 rfl 3 rfl (by decide) (by decide) dX5_count_162 ?_
    exact p_ret hx hb hr hlocks rfl (by first | rfl | (simp only [rMCount, eq_false c_1, eq_false (Ne.symm c_1), eq_false c_2, eq_false (Ne.symm c_2), eq_false c_3, eq_false (Ne.symm c_3), eq_false c_4, eq_false (Ne.symm c_4), eq_false c_5, eq_false (Ne.symm c_5), eq_false c_6, eq_false (Ne.symm c_6), eq_false c_7, eq_false (Ne.symm c_7), eq_false c_9, eq_false (Ne.symm c_9), eq_false c_10, eq_false (Ne.symm c_10), eq_false c_11, eq_false (Ne.symm c_11), eq_true c_13, eq_true (Eq.symm c_13), if_true, if_false, and_true, true_and, and_false, false_and, or_true, true_or, or_false, false_or, not_true_eq_false, not_false_eq_true, ne_eq, ite_true, ite_false]; done) | (simp only [rMCount, eq_false c_1, eq_false (Ne.symm c_1), eq_false c_2, eq_false (Ne.symm c_2), eq_false c_3, eq_false (Ne.symm c_3), eq_false c_4, eq_false (Ne.symm c_4), eq_false c_5, eq_false (Ne.symm c_5), eq_false c_6, eq_false (Ne.symm c_6), eq_false c_7, eq_false (Ne.symm c_7), eq_false c_9, eq_false (Ne.symm c_9), eq_false c_10, eq_false (Ne.symm c_10), eq_false c_11, eq_false (Ne.symm c_11), eq_true c_13, eq_true (Eq.symm c_13), if_true, if_false, and_true, true_and, and_false, false_and, or_true, true_or, or_false, false_or, not_true_eq_false, not_false_eq_true, ne_eq, ite_true, ite_false]; rfl)) dX5_count_163
  by_cases c_14 : p0 = 11
  · skip
    refine lv_tableIn (tgt := 164) (off := 163) hx hb dX5_count_1 (by rw [c_14]; decide) (by rw [c_14]; decide) (by rw [c_14]; rfl) (by decide) ?_
    refine lv_aload_n hx hb dX5_count_164 rfl (lv_at hl 0 rfl) ?_
    refine va_get (D := G) (ci := 5) (v := .ref (q 1)) (C := RX5) (T := TX5) (N := 15) hx hb hts in_X5_count_X5 hown hK.1 hP 0 rfl rfl 0 (by decide) (hts _ lk_X5_count_1) (fun _ h9 => h9) rfl dX5_count_165 ?_
    refine lv_iconst (v := 4) hx hb dX5_count_168 (by decide) ?_
    refine iald_n hx hb hK hP 1 rfl 4 rfl (by decide) (by decide) dX5_count_169 ?_
    exact p_ret hx hb hr hlocks rfl (by first | rfl | (simp only [rMCount, eq_false c_1, eq_false (Ne.symm c_1), eq_false c_2, eq_false (Ne.symm c_2), eq_false c_3, eq_false (Ne.symm c_3), eq_false c_4, eq_false (Ne.symm c_4), eq_false c_5, eq_false (Ne.symm c_5), eq_false c_6, eq_false (Ne.symm c_6), eq_false c_7, eq_false (Ne.symm c_7), eq_false c_9, eq_false (Ne.symm c_9), eq_false c_10, eq_false (Ne.symm c_10), eq_false c_11, eq_false (Ne.symm c_11), eq_false c_13, eq_false (Ne.symm c_13), eq_true c_14, eq_true (Eq.symm c_14), if_true, if_false, and_true, true_and, and_false, false_and, or_true, true_or, or_false, false_or, not_true_eq_false, not_false_eq_true, ne_eq, ite_true, ite_false]; done) | (simp only [rMCount, eq_false c_1, eq_false (Ne.symm c_1), eq_false c_2, eq_false (Ne.symm c_2), eq_false c_3, eq_false (Ne.symm c_3), eq_false c_4, eq_false (Ne.symm c_4), eq_false c_5, eq_false (Ne.symm c_5), eq_false c_6, eq_false (Ne.symm c_6), eq_false c_7, eq_false (Ne.symm c_7), eq_false c_9, eq_false (Ne.symm c_9), eq_false c_10, eq_false (Ne.symm c_10), eq_false c_11, eq_false (Ne.symm c_11), eq_false c_13, eq_false (Ne.symm c_13), eq_true c_14, eq_true (Eq.symm c_14), if_true, if_false, and_true, true_and, and_false, false_and, or_true, true_or, or_false, false_or, not_true_eq_false, not_false_eq_true, ne_eq, ite_true, ite_false]; rfl)) dX5_count_170
  by_cases c_15 : p0 = 12
  · skip
    refine lv_tableIn (tgt := 171) (off := 170) hx hb dX5_count_1 (by rw [c_15]; decide) (by rw [c_15]; decide) (by rw [c_15]; rfl) (by decide) ?_
    refine lv_aload_n hx hb dX5_count_171 rfl (lv_at hl 0 rfl) ?_
    refine va_get (D := G) (ci := 5) (v := .ref (q 1)) (C := RX5) (T := TX5) (N := 15) hx hb hts in_X5_count_X5 hown hK.1 hP 0 rfl rfl 0 (by decide) (hts _ lk_X5_count_1) (fun _ h9 => h9) rfl dX5_count_172 ?_
    refine lv_iconst (v := 5) hx hb dX5_count_175 (by decide) ?_
    refine iald_n hx hb hK hP 1 rfl 5 rfl (by decide) (by decide) dX5_count_176 ?_
    exact p_ret hx hb hr hlocks rfl (by first | rfl | (simp only [rMCount, eq_false c_1, eq_false (Ne.symm c_1), eq_false c_2, eq_false (Ne.symm c_2), eq_false c_3, eq_false (Ne.symm c_3), eq_false c_4, eq_false (Ne.symm c_4), eq_false c_5, eq_false (Ne.symm c_5), eq_false c_6, eq_false (Ne.symm c_6), eq_false c_7, eq_false (Ne.symm c_7), eq_false c_9, eq_false (Ne.symm c_9), eq_false c_10, eq_false (Ne.symm c_10), eq_false c_11, eq_false (Ne.symm c_11), eq_false c_13, eq_false (Ne.symm c_13), eq_false c_14, eq_false (Ne.symm c_14), eq_true c_15, eq_true (Eq.symm c_15), if_true, if_false, and_true, true_and, and_false, false_and, or_true, true_or, or_false, false_or, not_true_eq_false, not_false_eq_true, ne_eq, ite_true, ite_false]; done) | (simp only [rMCount, eq_false c_1, eq_false (Ne.symm c_1), eq_false c_2, eq_false (Ne.symm c_2), eq_false c_3, eq_false (Ne.symm c_3), eq_false c_4, eq_false (Ne.symm c_4), eq_false c_5, eq_false (Ne.symm c_5), eq_false c_6, eq_false (Ne.symm c_6), eq_false c_7, eq_false (Ne.symm c_7), eq_false c_9, eq_false (Ne.symm c_9), eq_false c_10, eq_false (Ne.symm c_10), eq_false c_11, eq_false (Ne.symm c_11), eq_false c_13, eq_false (Ne.symm c_13), eq_false c_14, eq_false (Ne.symm c_14), eq_true c_15, eq_true (Eq.symm c_15), if_true, if_false, and_true, true_and, and_false, false_and, or_true, true_or, or_false, false_or, not_true_eq_false, not_false_eq_true, ne_eq, ite_true, ite_false]; rfl)) dX5_count_177
  by_cases c_16 : p0 = 13
  · skip
    refine lv_tableIn (tgt := 178) (off := 177) hx hb dX5_count_1 (by rw [c_16]; decide) (by rw [c_16]; decide) (by rw [c_16]; rfl) (by decide) ?_
    refine lv_aload_n hx hb dX5_count_178 rfl (lv_at hl 0 rfl) ?_
    refine va_get (D := G) (ci := 5) (v := .int (nI (kMkept z))) (C := RX5) (T := TX5) (N := 15) hx hb hts in_X5_count_X5 hown hK.1 hP 0 rfl rfl 3 (by decide) (hts _ lk_X5_count_2) (fun _ h9 => h9) rfl dX5_count_179 ?_
    exact p_ret hx hb hr hlocks rfl (by first | rfl | (simp only [rMCount, eq_false c_1, eq_false (Ne.symm c_1), eq_false c_2, eq_false (Ne.symm c_2), eq_false c_3, eq_false (Ne.symm c_3), eq_false c_4, eq_false (Ne.symm c_4), eq_false c_5, eq_false (Ne.symm c_5), eq_false c_6, eq_false (Ne.symm c_6), eq_false c_7, eq_false (Ne.symm c_7), eq_false c_9, eq_false (Ne.symm c_9), eq_false c_10, eq_false (Ne.symm c_10), eq_false c_11, eq_false (Ne.symm c_11), eq_false c_13, eq_false (Ne.symm c_13), eq_false c_14, eq_false (Ne.symm c_14), eq_false c_15, eq_false (Ne.symm c_15), eq_true c_16, eq_true (Eq.symm c_16), if_true, if_false, and_true, true_and, and_false, false_and, or_true, true_or, or_false, false_or, not_true_eq_false, not_false_eq_true, ne_eq, ite_true, ite_false]; done) | (simp only [rMCount, eq_false c_1, eq_false (Ne.symm c_1), eq_false c_2, eq_false (Ne.symm c_2), eq_false c_3, eq_false (Ne.symm c_3), eq_false c_4, eq_false (Ne.symm c_4), eq_false c_5, eq_false (Ne.symm c_5), eq_false c_6, eq_false (Ne.symm c_6), eq_false c_7, eq_false (Ne.symm c_7), eq_false c_9, eq_false (Ne.symm c_9), eq_false c_10, eq_false (Ne.symm c_10), eq_false c_11, eq_false (Ne.symm c_11), eq_false c_13, eq_false (Ne.symm c_13), eq_false c_14, eq_false (Ne.symm c_14), eq_false c_15, eq_false (Ne.symm c_15), eq_true c_16, eq_true (Eq.symm c_16), if_true, if_false, and_true, true_and, and_false, false_and, or_true, true_or, or_false, false_or, not_true_eq_false, not_false_eq_true, ne_eq, ite_true, ite_false]; rfl)) dX5_count_182
  by_cases c_17 : p0 = 14
  · skip
    refine lv_tableIn (tgt := 183) (off := 182) hx hb dX5_count_1 (by rw [c_17]; decide) (by rw [c_17]; decide) (by rw [c_17]; rfl) (by decide) ?_
    refine lv_aload_n hx hb dX5_count_183 rfl (lv_at hl 0 rfl) ?_
    refine va_get (D := G) (ci := 5) (v := .int (nI (kMtyped z))) (C := RX5) (T := TX5) (N := 15) hx hb hts in_X5_count_X5 hown hK.1 hP 0 rfl rfl 9 (by decide) (hts _ lk_X5_count_3) (fun _ h9 => h9) rfl dX5_count_184 ?_
    exact p_ret hx hb hr hlocks rfl (by first | rfl | (simp only [rMCount, eq_false c_1, eq_false (Ne.symm c_1), eq_false c_2, eq_false (Ne.symm c_2), eq_false c_3, eq_false (Ne.symm c_3), eq_false c_4, eq_false (Ne.symm c_4), eq_false c_5, eq_false (Ne.symm c_5), eq_false c_6, eq_false (Ne.symm c_6), eq_false c_7, eq_false (Ne.symm c_7), eq_false c_9, eq_false (Ne.symm c_9), eq_false c_10, eq_false (Ne.symm c_10), eq_false c_11, eq_false (Ne.symm c_11), eq_false c_13, eq_false (Ne.symm c_13), eq_false c_14, eq_false (Ne.symm c_14), eq_false c_15, eq_false (Ne.symm c_15), eq_false c_16, eq_false (Ne.symm c_16), eq_true c_17, eq_true (Eq.symm c_17), if_true, if_false, and_true, true_and, and_false, false_and, or_true, true_or, or_false, false_or, not_true_eq_false, not_false_eq_true, ne_eq, ite_true, ite_false]; done) | (simp only [rMCount, eq_false c_1, eq_false (Ne.symm c_1), eq_false c_2, eq_false (Ne.symm c_2), eq_false c_3, eq_false (Ne.symm c_3), eq_false c_4, eq_false (Ne.symm c_4), eq_false c_5, eq_false (Ne.symm c_5), eq_false c_6, eq_false (Ne.symm c_6), eq_false c_7, eq_false (Ne.symm c_7), eq_false c_9, eq_false (Ne.symm c_9), eq_false c_10, eq_false (Ne.symm c_10), eq_false c_11, eq_false (Ne.symm c_11), eq_false c_13, eq_false (Ne.symm c_13), eq_false c_14, eq_false (Ne.symm c_14), eq_false c_15, eq_false (Ne.symm c_15), eq_false c_16, eq_false (Ne.symm c_16), eq_true c_17, eq_true (Eq.symm c_17), if_true, if_false, and_true, true_and, and_false, false_and, or_true, true_or, or_false, false_or, not_true_eq_false, not_false_eq_true, ne_eq, ite_true, ite_false]; rfl)) dX5_count_187
  refine sw_def (tgt := 188) hx hb dX5_count_1 (sw_tab 15 (by decide) (by decide) (by decide) (fun k hk e => by rcases (show k = 0 ∨ k = 1 ∨ k = 2 ∨ k = 3 ∨ k = 4 ∨ k = 5 ∨ k = 6 ∨ k = 7 ∨ k = 8 ∨ k = 9 ∨ k = 10 ∨ k = 11 ∨ k = 12 ∨ k = 13 ∨ k = 14 by omega) with rfl | rfl | rfl | rfl | rfl | rfl | rfl | rfl | rfl | rfl | rfl | rfl | rfl | rfl | rfl <;> first | rfl | exact absurd (e.trans (by decide)) c_1 | exact absurd (e.trans (by decide)) c_2 | exact absurd (e.trans (by decide)) c_3 | exact absurd (e.trans (by decide)) c_4 | exact absurd (e.trans (by decide)) c_5 | exact absurd (e.trans (by decide)) c_6 | exact absurd (e.trans (by decide)) c_7 | exact absurd (e.trans (by decide)) c_9 | exact absurd (e.trans (by decide)) c_10 | exact absurd (e.trans (by decide)) c_11 | exact absurd (e.trans (by decide)) c_13 | exact absurd (e.trans (by decide)) c_14 | exact absurd (e.trans (by decide)) c_15 | exact absurd (e.trans (by decide)) c_16 | exact absurd (e.trans (by decide)) c_17)) (by decide) ?_
  refine lv_iconst (v := (-1)) hx hb dX5_count_188 (by decide) ?_
  exact p_ret hx hb hr hlocks rfl (by first | rfl | (simp only [rMCount, eq_false c_1, eq_false (Ne.symm c_1), eq_false c_2, eq_false (Ne.symm c_2), eq_false c_3, eq_false (Ne.symm c_3), eq_false c_4, eq_false (Ne.symm c_4), eq_false c_5, eq_false (Ne.symm c_5), eq_false c_6, eq_false (Ne.symm c_6), eq_false c_7, eq_false (Ne.symm c_7), eq_false c_9, eq_false (Ne.symm c_9), eq_false c_10, eq_false (Ne.symm c_10), eq_false c_11, eq_false (Ne.symm c_11), eq_false c_13, eq_false (Ne.symm c_13), eq_false c_14, eq_false (Ne.symm c_14), eq_false c_15, eq_false (Ne.symm c_15), eq_false c_16, eq_false (Ne.symm c_16), eq_false c_17, eq_false (Ne.symm c_17), if_true, if_false, and_true, true_and, and_false, false_and, or_true, true_or, or_false, false_or, not_true_eq_false, not_false_eq_true, ne_eq, ite_true, ite_false]; done) | (simp only [rMCount, eq_false c_1, eq_false (Ne.symm c_1), eq_false c_2, eq_false (Ne.symm c_2), eq_false c_3, eq_false (Ne.symm c_3), eq_false c_4, eq_false (Ne.symm c_4), eq_false c_5, eq_false (Ne.symm c_5), eq_false c_6, eq_false (Ne.symm c_6), eq_false c_7, eq_false (Ne.symm c_7), eq_false c_9, eq_false (Ne.symm c_9), eq_false c_10, eq_false (Ne.symm c_10), eq_false c_11, eq_false (Ne.symm c_11), eq_false c_13, eq_false (Ne.symm c_13), eq_false c_14, eq_false (Ne.symm c_14), eq_false c_15, eq_false (Ne.symm c_15), eq_false c_16, eq_false (Ne.symm c_16), eq_false c_17, eq_false (Ne.symm c_17), if_true, if_false, and_true, true_and, and_false, false_and, or_true, true_or, or_false, false_or, not_true_eq_false, not_false_eq_true, ne_eq, ite_true, ite_false]; rfl)) dX5_count_189
theorem cd_X5_count : yX5_count.cls = RX5 ∧ yX5_count.cls ≠ "java/lang/invoke/MethodHandle" ∧ yX5_count.cls ≠ "java/lang/invoke/VarHandle" ∧ (parseMethodDescriptor yX5_count.desc).map (fun d => d.parameters.length) = some 1 := by decide +kernel
-- X5_append
theorem lk_X5_append_1 : Cond.fieldLink RX5 157 "EvenLoadsModel" "typed" "I" ∈ wsX5_append := List.mem_of_getElem? (i := 1) (by decide +kernel)
theorem lk_X5_append_2 : Cond.fieldLink RX5 19 "EvenLoadsModel" "text" "[I" ∈ wsX5_append := List.mem_of_getElem? (i := 2) (by decide +kernel)
theorem in_X5_append_X5 : ∀ w ∈ wsX50, w ∈ wsX5_append := by decide +kernel
set_option maxHeartbeats 4000000 in
set_option maxRecDepth 100000 in
theorem c_X5_append (l : Launch) (G : va_G) (cI cQ : ClassId) (q : Nat → Nat) (z : MS) (nv nj : Nat) (hm : MI (kMs z) nv nj) (p0 : Int32) (ht : kMtyped z ≤ 100) (sz0 : Nat) : Met l yX5_append wsX5_append ({ frames := 1, cells := 0, slots := 0, locals := 22 } : Room) (mPc G cI cQ [.ref (q 0), .int p0] ((mdT cI q z)) sz0) (va_Qi (fun (r : Int32) (_ : Unit) => r = (if pIn p0 1 255 then (if nI (kMtyped z) = 100 then -3 else nI (kMtyped z + 1)) else -1)) (mB G (va_A ((mdT cI q z)) sz0) (fun _ => (mdT cI q (if pIn p0 1 255 then (if nI (kMtyped z) = 100 then z else uMtyped (uMtext z (upd (kMtext z) (kMtyped z) p0)) (kMtyped z + 1)) else z)))) (va_A ((mdT cI q z)) sz0)) 0 0 (va_A ((mdT cI q z)) sz0) := by
  refine mm_of (cc := cX5_append) (maxL := 2) (ret := (some .int)) (own := RX5) (by decide) rfl rfl (Nat.le_of_ble_eq_true rfl) rfl ?_
  intro p e s m below meth cd ls A hx hb hr hts hown hlocks hml hA hK hP hD hS hl
  refine lv_iload_n hx hb dX5_append_0 rfl (lv_at hl 1 rfl) ?_
  refine lv_iconst (v := 1) hx hb dX5_append_1 (by decide) ?_
  refine lv_sipush (v := 255) hx hb dX5_append_2 (by decide) ?_
  refine pcS (rest := []) ⟨hx, hb, hml, hown, hts⟩ (c_X5_in l G cI cQ p0 1 255) (cwS 3 hts gX5_append_X5_in rfl rfl rfl cd_X5_in ⟨Nat.le_of_ble_eq_true rfl, Nat.le_of_ble_eq_true rfl⟩) hK hP [] rfl rfl hl.1 rfl (Nat.le_of_ble_eq_true rfl) dX5_append_5 ⟨Nat.zero_le _, Nat.zero_le _⟩ ?_
  refine lv_if_ne (tgt := 13) hx hb dX5_append_8 (by decide) (fun c_1 => ?_) (fun c_1 => ?_)
  · skip
    have c_1 := bI_n0.mp c_1
    refine lv_aload_n hx hb dX5_append_13 rfl (lv_at hl 0 rfl) ?_
    refine va_get (D := G) (ci := 5) (v := .int (nI (kMtyped z))) (C := RX5) (T := TX5) (N := 15) hx hb hts in_X5_append_X5 hown hK.1 hP 0 rfl rfl 9 (by decide) (hts _ lk_X5_append_1) (fun _ h9 => h9) rfl dX5_append_14 ?_
    refine lv_bipush (v := 100) hx hb dX5_append_17 (by decide) ?_
    refine lv_icmp_ne (tgt := 25) hx hb dX5_append_19 (by decide) (fun c_2 => ?_) (fun c_2 => ?_)
    · skip
      refine lv_aload_n hx hb dX5_append_25 rfl (lv_at hl 0 rfl) ?_
      refine va_get (D := G) (ci := 5) (v := .ref (q 4)) (C := RX5) (T := TX5) (N := 15) hx hb hts in_X5_append_X5 hown hK.1 hP 0 rfl rfl 8 (by decide) (hts _ lk_X5_append_2) (fun _ h9 => h9) rfl dX5_append_26 ?_
      refine lv_aload_n hx hb dX5_append_29 rfl (lv_at hl 0 rfl) ?_
      refine va_get (D := G) (ci := 5) (v := .int (nI (kMtyped z))) (C := RX5) (T := TX5) (N := 15) hx hb hts in_X5_append_X5 hown hK.1 hP 0 rfl rfl 9 (by decide) (hts _ lk_X5_append_1) (fun _ h9 => h9) rfl dX5_append_30 ?_
      refine lv_iload_n hx hb dX5_append_33 rfl (lv_at hl 1 rfl) ?_
      have ht2 : kMtyped z < 100 := by rcases Nat.lt_or_ge (kMtyped z) 100 with q | q; exact q; exact absurd (by rw [show kMtyped z = 100 from by omega]; rfl) c_2
      refine iast_n hx hb hK hP hD hS 4 rfl (kMtyped z) rfl (by omega) (by decide) dX5_append_34 (fun H locs hP hD hS => ?_)
      have hP : va_P G vwCl ((mdT cI q (uMtext z (upd (kMtext z) (kMtyped z) p0)))) H := hP
      have hD : va_D A ((mdT cI q (uMtext z (upd (kMtext z) (kMtyped z) p0)))) := hD
      refine lv_aload_n hx hb dX5_append_35 rfl (lv_at hl 0 rfl) ?_
      refine lv_dup hx hb dX5_append_36 rfl ?_
      refine va_get (D := G) (ci := 5) (v := .int (nI (kMtyped z))) (C := RX5) (T := TX5) (N := 15) hx hb hts in_X5_append_X5 hown hK.1 hP 0 rfl rfl 9 (by decide) (hts _ lk_X5_append_1) (fun _ h9 => h9) rfl dX5_append_37 ?_
      refine lv_iconst (v := 1) hx hb dX5_append_40 (by decide) ?_
      refine lv_iadd hx hb dX5_append_41 ?_
      refine lv_cvt (y := (nI ((kMtyped z) + 1))) (nI_1 _) ?_
      refine va_put (D := G) (ci := 5) (v := .int (nI ((kMtyped z) + 1))) (ty := .int) (C := RX5) (T := TX5) (N := 15) hx hb hts in_X5_append_X5 tyX5 tyX5_ok nmX5 hown hK.1 hP hD hS 0 rfl rfl 9 (by decide) (hts _ lk_X5_append_1) (fun _ h9 => h9) rfl (by decide +kernel) rfl rfl (Nat.le_of_ble_eq_true rfl) dX5_append_42 (fun H locs hP hD hS => ?_)
      have hP : va_P G vwCl ((mdT cI q (uMtyped (uMtext z (upd (kMtext z) (kMtyped z) p0)) ((kMtyped z) + 1)))) H := hP
      have hD : va_D A ((mdT cI q (uMtyped (uMtext z (upd (kMtext z) (kMtyped z) p0)) ((kMtyped z) + 1)))) := hD
      refine lv_aload_n hx hb dX5_append_45 rfl (lv_at hl 0 rfl) ?_
      refine va_get (D := G) (ci := 5) (v := .int (nI ((kMtyped z) + 1))) (C := RX5) (T := TX5) (N := 15) hx hb hts in_X5_append_X5 hown hK.1 hP 0 rfl rfl 9 (by decide) (hts _ lk_X5_append_1) (fun _ h9 => h9) rfl dX5_append_46 ?_
      exact m_ret () hx hb hr hlocks rfl (by first | rfl | (simp only [eq_true c_1, eq_false c_2, eq_false (Ne.symm c_2), if_true, if_false, and_true, true_and, and_false, false_and, or_true, true_or, or_false, false_or, not_true_eq_false, not_false_eq_true, ne_eq, ite_true, ite_false]; done) | (simp only [eq_true c_1, eq_false c_2, eq_false (Ne.symm c_2), if_true, if_false, and_true, true_and, and_false, false_and, or_true, true_or, or_false, false_or, not_true_eq_false, not_false_eq_true, ne_eq, ite_true, ite_false]; rfl)) (by rw [show (if pIn p0 1 255 then (if nI (kMtyped z) = 100 then z else uMtyped (uMtext z (upd (kMtext z) (kMtyped z) p0)) (kMtyped z + 1)) else z) = (uMtyped (uMtext z (upd (kMtext z) (kMtyped z) p0)) ((kMtyped z) + 1)) from by first | rfl | (simp only [eq_true c_1, eq_false c_2, eq_false (Ne.symm c_2), if_true, if_false, and_true, true_and, and_false, false_and, or_true, true_or, or_false, false_or, not_true_eq_false, not_false_eq_true, ne_eq, ite_true, ite_false]; done) | (simp only [eq_true c_1, eq_false c_2, eq_false (Ne.symm c_2), if_true, if_false, and_true, true_and, and_false, false_and, or_true, true_or, or_false, false_or, not_true_eq_false, not_false_eq_true, ne_eq, ite_true, ite_false]; rfl)]; exact hP) (by rw [show (if pIn p0 1 255 then (if nI (kMtyped z) = 100 then z else uMtyped (uMtext z (upd (kMtext z) (kMtyped z) p0)) (kMtyped z + 1)) else z) = (uMtyped (uMtext z (upd (kMtext z) (kMtyped z) p0)) ((kMtyped z) + 1)) from by first | rfl | (simp only [eq_true c_1, eq_false c_2, eq_false (Ne.symm c_2), if_true, if_false, and_true, true_and, and_false, false_and, or_true, true_or, or_false, false_or, not_true_eq_false, not_false_eq_true, ne_eq, ite_true, ite_false]; done) | (simp only [eq_true c_1, eq_false c_2, eq_false (Ne.symm c_2), if_true, if_false, and_true, true_and, and_false, false_and, or_true, true_or, or_false, false_or, not_true_eq_false, not_false_eq_true, ne_eq, ite_true, ite_false]; rfl)]; exact hD) hS dX5_append_49
    · skip
      refine lv_bipush (v := (-3)) hx hb dX5_append_22 (by decide) ?_
      exact m_ret () hx hb hr hlocks rfl (by first | rfl | (simp only [eq_true c_1, eq_true c_2, eq_true (Eq.symm c_2), if_true, if_false, and_true, true_and, and_false, false_and, or_true, true_or, or_false, false_or, not_true_eq_false, not_false_eq_true, ne_eq, ite_true, ite_false]; done) | (simp only [eq_true c_1, eq_true c_2, eq_true (Eq.symm c_2), if_true, if_false, and_true, true_and, and_false, false_and, or_true, true_or, or_false, false_or, not_true_eq_false, not_false_eq_true, ne_eq, ite_true, ite_false]; rfl)) (by rw [show (if pIn p0 1 255 then (if nI (kMtyped z) = 100 then z else uMtyped (uMtext z (upd (kMtext z) (kMtyped z) p0)) (kMtyped z + 1)) else z) = z from by first | rfl | (simp only [eq_true c_1, eq_true c_2, eq_true (Eq.symm c_2), if_true, if_false, and_true, true_and, and_false, false_and, or_true, true_or, or_false, false_or, not_true_eq_false, not_false_eq_true, ne_eq, ite_true, ite_false]; done) | (simp only [eq_true c_1, eq_true c_2, eq_true (Eq.symm c_2), if_true, if_false, and_true, true_and, and_false, false_and, or_true, true_or, or_false, false_or, not_true_eq_false, not_false_eq_true, ne_eq, ite_true, ite_false]; rfl)]; exact hP) (by rw [show (if pIn p0 1 255 then (if nI (kMtyped z) = 100 then z else uMtyped (uMtext z (upd (kMtext z) (kMtyped z) p0)) (kMtyped z + 1)) else z) = z from by first | rfl | (simp only [eq_true c_1, eq_true c_2, eq_true (Eq.symm c_2), if_true, if_false, and_true, true_and, and_false, false_and, or_true, true_or, or_false, false_or, not_true_eq_false, not_false_eq_true, ne_eq, ite_true, ite_false]; done) | (simp only [eq_true c_1, eq_true c_2, eq_true (Eq.symm c_2), if_true, if_false, and_true, true_and, and_false, false_and, or_true, true_or, or_false, false_or, not_true_eq_false, not_false_eq_true, ne_eq, ite_true, ite_false]; rfl)]; exact hD) hS dX5_append_24
  · skip
    have c_1 := bI_0.mp c_1
    refine lv_iconst (v := (-1)) hx hb dX5_append_11 (by decide) ?_
    exact m_ret () hx hb hr hlocks rfl (by first | rfl | (simp only [eq_false c_1, if_true, if_false, and_true, true_and, and_false, false_and, or_true, true_or, or_false, false_or, not_true_eq_false, not_false_eq_true, ne_eq, ite_true, ite_false]; done) | (simp only [eq_false c_1, if_true, if_false, and_true, true_and, and_false, false_and, or_true, true_or, or_false, false_or, not_true_eq_false, not_false_eq_true, ne_eq, ite_true, ite_false]; rfl)) (by rw [show (if pIn p0 1 255 then (if nI (kMtyped z) = 100 then z else uMtyped (uMtext z (upd (kMtext z) (kMtyped z) p0)) (kMtyped z + 1)) else z) = z from by first | rfl | (simp only [eq_false c_1, if_true, if_false, and_true, true_and, and_false, false_and, or_true, true_or, or_false, false_or, not_true_eq_false, not_false_eq_true, ne_eq, ite_true, ite_false]; done) | (simp only [eq_false c_1, if_true, if_false, and_true, true_and, and_false, false_and, or_true, true_or, or_false, false_or, not_true_eq_false, not_false_eq_true, ne_eq, ite_true, ite_false]; rfl)]; exact hP) (by rw [show (if pIn p0 1 255 then (if nI (kMtyped z) = 100 then z else uMtyped (uMtext z (upd (kMtext z) (kMtyped z) p0)) (kMtyped z + 1)) else z) = z from by first | rfl | (simp only [eq_false c_1, if_true, if_false, and_true, true_and, and_false, false_and, or_true, true_or, or_false, false_or, not_true_eq_false, not_false_eq_true, ne_eq, ite_true, ite_false]; done) | (simp only [eq_false c_1, if_true, if_false, and_true, true_and, and_false, false_and, or_true, true_or, or_false, false_or, not_true_eq_false, not_false_eq_true, ne_eq, ite_true, ite_false]; rfl)]; exact hD) hS dX5_append_12
theorem cd_X5_append : yX5_append.cls = RX5 ∧ yX5_append.cls ≠ "java/lang/invoke/MethodHandle" ∧ yX5_append.cls ≠ "java/lang/invoke/VarHandle" ∧ (parseMethodDescriptor yX5_append.desc).map (fun d => d.parameters.length) = some 1 := by decide +kernel
-- X5_clearText
theorem lk_X5_clearText_1 : Cond.fieldLink RX5 157 "EvenLoadsModel" "typed" "I" ∈ wsX5_clearText := List.mem_of_getElem? (i := 1) (by decide +kernel)
theorem in_X5_clearText_X5 : ∀ w ∈ wsX50, w ∈ wsX5_clearText := by decide +kernel
set_option maxHeartbeats 4000000 in
set_option maxRecDepth 100000 in
theorem c_X5_clearText (l : Launch) (G : va_G) (cI cQ : ClassId) (q : Nat → Nat) (z : MS) (nv nj : Nat) (hm : MI (kMs z) nv nj) (sz0 : Nat) : Met l yX5_clearText wsX5_clearText ({ frames := 0, cells := 0, slots := 0, locals := 0 } : Room) (mPc G cI cQ [.ref (q 0)] ((mdT cI q z)) sz0) (va_Qi (fun (r : Int32) (_ : Unit) => r = nI (kMtyped z)) (mB G (va_A ((mdT cI q z)) sz0) (fun _ => (mdT cI q (uMtyped z 0)))) (va_A ((mdT cI q z)) sz0)) 0 0 (va_A ((mdT cI q z)) sz0) := by
  refine mm_of (cc := cX5_clearText) (maxL := 2) (ret := (some .int)) (own := RX5) (by decide) rfl rfl (Nat.le_of_ble_eq_true rfl) rfl ?_
  intro p e s m below meth cd ls A hx hb hr hts hown hlocks hml hA hK hP hD hS hl
  refine lv_aload_n hx hb dX5_clearText_0 rfl (lv_at hl 0 rfl) ?_
  refine va_get (D := G) (ci := 5) (v := .int (nI (kMtyped z))) (C := RX5) (T := TX5) (N := 15) hx hb hts in_X5_clearText_X5 hown hK.1 hP 0 rfl rfl 9 (by decide) (hts _ lk_X5_clearText_1) (fun _ h9 => h9) rfl dX5_clearText_1 ?_
  refine lv_istore_n (lv' := [(1, .int (nI (kMtyped z))), (0, .ref (q 0))]) hx hb dX5_clearText_4 rfl hl (by decide) rfl (fun ls hl => ?_)
  refine lv_aload_n hx hb dX5_clearText_5 rfl (lv_at hl 1 rfl) ?_
  refine lv_iconst (v := 0) hx hb dX5_clearText_6 (by decide) ?_
  refine lv_cvt (y := (nI 0)) rfl ?_
  refine va_put (D := G) (ci := 5) (v := .int (nI 0)) (ty := .int) (C := RX5) (T := TX5) (N := 15) hx hb hts in_X5_clearText_X5 tyX5 tyX5_ok nmX5 hown hK.1 hP hD hS 0 rfl rfl 9 (by decide) (hts _ lk_X5_clearText_1) (fun _ h9 => h9) rfl (by decide +kernel) rfl rfl (Nat.le_of_ble_eq_true rfl) dX5_clearText_7 (fun H locs hP hD hS => ?_)
  have hP : va_P G vwCl ((mdT cI q (uMtyped z 0))) H := hP
  have hD : va_D A ((mdT cI q (uMtyped z 0))) := hD
  refine lv_iload_n hx hb dX5_clearText_10 rfl (lv_at hl 0 rfl) ?_
  exact m_ret () hx hb hr hlocks rfl (by first | rfl | (simp only [if_true, if_false, and_true, true_and, and_false, false_and, or_true, true_or, or_false, false_or, not_true_eq_false, not_false_eq_true, ne_eq, ite_true, ite_false]; done) | (simp only [if_true, if_false, and_true, true_and, and_false, false_and, or_true, true_or, or_false, false_or, not_true_eq_false, not_false_eq_true, ne_eq, ite_true, ite_false]; rfl)) hP hD hS dX5_clearText_11
theorem cd_X5_clearText : yX5_clearText.cls = RX5 ∧ yX5_clearText.cls ≠ "java/lang/invoke/MethodHandle" ∧ yX5_clearText.cls ≠ "java/lang/invoke/VarHandle" ∧ (parseMethodDescriptor yX5_clearText.desc).map (fun d => d.parameters.length) = some 0 := by decide +kernel
-- X5_without
set_option maxHeartbeats 4000000 in
set_option maxRecDepth 100000 in
theorem c_X5_without (l : Launch) (G : va_G) (cI cQ : ClassId) (q : Nat → Nat) (z : MS) (nv nj : Nat) (hm : MI (kMs z) nv nj) (p0 : Int32) (sz0 : Nat) : Met l yX5_without wsX5_without ({ frames := 5, cells := 0, slots := 0, locals := 109 } : Room) (mPc G cI cQ [.ref (q 0), .int p0] ((mdT cI q z)) sz0) (va_Qi (fun (r : Int32) (_ : Unit) => r = (gWithout (kMs z) nv nj p0)) (mB G (va_A ((mdT cI q z)) sz0) (fun _ => (mdT cI q (if pHas nv p0 ∧ pMOpen (kMs z) nv p0 ∧ ¬ mOpens (kMs z) = 1 then uMbef z (kMs z) else z)))) (va_A ((mdT cI q z)) sz0)) 0 0 (va_A ((mdT cI q z)) sz0) := by
  refine mm_of (cc := cX5_without) (maxL := 4) (ret := (some .int)) (own := RX5) (by decide) rfl rfl (Nat.le_of_ble_eq_true rfl) rfl ?_
  intro p e s m below meth cd ls A hx hb hr hts hown hlocks hml hA hK hP hD hS hl
  refine lv_aload_n hx hb dX5_without_0 rfl (lv_at hl 0 rfl) ?_
  refine lv_iload_n hx hb dX5_without_1 rfl (lv_at hl 1 rfl) ?_
  refine pcV (rest := []) ⟨hx, hb, hml, hown, hts⟩ (c_X5_isServer l G cI cQ q z nv nj hm p0) (cwV 1 hts gX5_without_X5_isServer rfl rfl rfl cd_X5_isServer ⟨Nat.le_of_ble_eq_true rfl, Nat.le_of_ble_eq_true rfl⟩) hK hP [0, 1, 2, 3, 4, 5, 6] rfl 0 rfl rfl rfl rfl hl.1 rfl (Nat.le_of_ble_eq_true rfl) dX5_without_2 ⟨Nat.zero_le _, Nat.zero_le _⟩ ?_
  refine lv_if_ne (tgt := 10) hx hb dX5_without_5 (by decide) (fun c_1 => ?_) (fun c_1 => ?_)
  · skip
    have c_1 := bI_n0.mp c_1
    refine lv_aload_n hx hb dX5_without_10 rfl (lv_at hl 0 rfl) ?_
    refine lv_iload_n hx hb dX5_without_11 rfl (lv_at hl 1 rfl) ?_
    refine pcV (rest := []) ⟨hx, hb, hml, hown, hts⟩ (c_X5_isOpen l G cI cQ q z nv nj hm p0) (cwV 1 hts gX5_without_X5_isOpen rfl rfl rfl cd_X5_isOpen ⟨Nat.le_of_ble_eq_true rfl, Nat.le_of_ble_eq_true rfl⟩) hK hP [0, 1, 2, 3, 4, 5, 6] rfl 0 rfl rfl rfl rfl hl.1 rfl (Nat.le_of_ble_eq_true rfl) dX5_without_12 ⟨Nat.zero_le _, Nat.zero_le _⟩ ?_
    refine lv_if_eq (tgt := 26) hx hb dX5_without_15 (by decide) (fun c_2 => ?_) (fun c_2 => ?_)
    · skip
      have c_2 := bI_0.mp c_2
      refine lv_bipush (v := (-2)) hx hb dX5_without_26 (by decide) ?_
      exact m_ret () hx hb hr hlocks rfl (by first | rfl | (simp only [gWithout, eq_true c_1, eq_false c_2, if_true, if_false, and_true, true_and, and_false, false_and, or_true, true_or, or_false, false_or, not_true_eq_false, not_false_eq_true, ne_eq, ite_true, ite_false]; done) | (simp only [gWithout, eq_true c_1, eq_false c_2, if_true, if_false, and_true, true_and, and_false, false_and, or_true, true_or, or_false, false_or, not_true_eq_false, not_false_eq_true, ne_eq, ite_true, ite_false]; rfl)) (by rw [show (if pHas nv p0 ∧ pMOpen (kMs z) nv p0 ∧ ¬ mOpens (kMs z) = 1 then uMbef z (kMs z) else z) = z from by first | rfl | (simp only [gWithout, eq_true c_1, eq_false c_2, if_true, if_false, and_true, true_and, and_false, false_and, or_true, true_or, or_false, false_or, not_true_eq_false, not_false_eq_true, ne_eq, ite_true, ite_false]; done) | (simp only [gWithout, eq_true c_1, eq_false c_2, if_true, if_false, and_true, true_and, and_false, false_and, or_true, true_or, or_false, false_or, not_true_eq_false, not_false_eq_true, ne_eq, ite_true, ite_false]; rfl)]; exact hP) (by rw [show (if pHas nv p0 ∧ pMOpen (kMs z) nv p0 ∧ ¬ mOpens (kMs z) = 1 then uMbef z (kMs z) else z) = z from by first | rfl | (simp only [gWithout, eq_true c_1, eq_false c_2, if_true, if_false, and_true, true_and, and_false, false_and, or_true, true_or, or_false, false_or, not_true_eq_false, not_false_eq_true, ne_eq, ite_true, ite_false]; done) | (simp only [gWithout, eq_true c_1, eq_false c_2, if_true, if_false, and_true, true_and, and_false, false_and, or_true, true_or, or_false, false_or, not_true_eq_false, not_false_eq_true, ne_eq, ite_true, ite_false]; rfl)]; exact hD) hS dX5_without_28
    · skip
      have c_2 := bI_n0.mp c_2
      refine lv_aload_n hx hb dX5_without_18 rfl (lv_at hl 0 rfl) ?_
      refine pcV (rest := []) ⟨hx, hb, hml, hown, hts⟩ (c_X5_opens l G cI cQ q z nv nj hm) (cwV 0 hts gX5_without_X5_opens rfl rfl rfl cd_X5_opens ⟨Nat.le_of_ble_eq_true rfl, Nat.le_of_ble_eq_true rfl⟩) hK hP [0, 1, 2, 3, 4, 5, 6] rfl 0 rfl rfl rfl rfl hl.1 rfl (Nat.le_of_ble_eq_true rfl) dX5_without_19 ⟨Nat.zero_le _, Nat.zero_le _⟩ ?_
      refine lv_iconst (v := 1) hx hb dX5_without_22 (by decide) ?_
      refine lv_icmp_ne (tgt := 29) hx hb dX5_without_23 (by decide) (fun c_3 => ?_) (fun c_3 => ?_)
      · skip
        refine lv_aload_n hx hb dX5_without_29 rfl (lv_at hl 0 rfl) ?_
        refine mcVv (rest := []) (wr := []) ⟨hx, hb, hml, hown, hts⟩ (c_X5_aside l G cI cQ q z _) (cwV 0 hts gX5_without_X5_aside rfl rfl rfl cd_X5_aside ⟨Nat.le_of_ble_eq_true rfl, Nat.le_of_ble_eq_true rfl⟩) hK hP hD hS hA [0, 1, 2, 3, 4, 5, 6] [] rfl rfl (by decide) (by decide) (by decide) 0 rfl rfl rfl rfl hl.1 rfl (Nat.le_of_ble_eq_true rfl) dX5_without_30 ⟨Nat.zero_le _, Nat.zero_le _⟩ (fun _ H locs _ hP hD hS => ?_)
        have hP : va_P G vwCl ((mdT cI q (uMbef z (kMs z)))) H := hP
        have hD : va_D A ((mdT cI q (uMbef z (kMs z)))) := hD
        refine lv_aload_n hx hb dX5_without_33 rfl (lv_at hl 0 rfl) ?_
        refine lv_iload_n hx hb dX5_without_34 rfl (lv_at hl 1 rfl) ?_
        refine mcV (rest := []) (wr := []) ⟨hx, hb, hml, hown, hts⟩ (c_X5_empties l G cI cQ q (uMbef z (kMs z)) nv nj hm p0 c_1 _) (cwV 1 hts gX5_without_X5_empties rfl rfl rfl cd_X5_empties ⟨Nat.le_of_ble_eq_true rfl, Nat.le_of_ble_eq_true rfl⟩) hK hP hD hS hA [0, 1, 2, 3, 4, 5, 6] [] rfl rfl (by decide) (by decide) (by decide) 0 rfl rfl rfl rfl hl.1 rfl (Nat.le_of_ble_eq_true rfl) dX5_without_35 ⟨Nat.zero_le _, Nat.zero_le _⟩ (fun r _ H locs hr9 hP hD hS => ?_)
        subst hr9
        have hP : va_P G vwCl ((mdT cI q (uMbef (uMs z (mEmpties (kMs z) p0 nv nj)) (kMs z)))) H := hP
        have hD : va_D A ((mdT cI q (uMbef (uMs z (mEmpties (kMs z) p0 nv nj)) (kMs z)))) := hD
        refine lv_istore_n (lv' := [(2, .int (nI (emN (mShut (kMs z) p0) p0 nj))), (0, .ref (q 0)), (1, .int p0)]) hx hb dX5_without_38 rfl hl (by decide) rfl (fun ls hl => ?_)
        refine lv_iload_n hx hb dX5_without_39 rfl (lv_at hl 0 rfl) ?_
        refine lv_if_ge (tgt := 47) hx hb dX5_without_40 (by decide) (fun c_4 => ?_) (fun c_4 => ?_)
        · skip
          refine lv_aload_n hx hb dX5_without_47 rfl (lv_at hl 1 rfl) ?_
          refine pcV (rest := []) ⟨hx, hb, hml, hown, hts⟩ (c_X5_greatest l G cI cQ q (uMbef (uMs z (mEmpties (kMs z) p0 nv nj)) (kMs z)) nv nj (MI_em (MI_upd 1 _ (by decide) (by decide) hm) _)) (cwV 0 hts gX5_without_X5_greatest rfl rfl rfl cd_X5_greatest ⟨Nat.le_of_ble_eq_true rfl, Nat.le_of_ble_eq_true rfl⟩) hK hP [0, 1, 2, 3, 4, 5, 6] rfl 0 rfl rfl rfl rfl hl.1 rfl (Nat.le_of_ble_eq_true rfl) dX5_without_48 ⟨Nat.zero_le _, Nat.zero_le _⟩ ?_
          refine lv_istore_n (lv' := [(3, .int (mGreat (mEmpties (kMs z) p0 nv nj) nv nj)), (2, .int (nI (emN (mShut (kMs z) p0) p0 nj))), (0, .ref (q 0)), (1, .int p0)]) hx hb dX5_without_51 rfl hl (by decide) rfl (fun ls hl => ?_)
          refine lv_aload_n hx hb dX5_without_52 rfl (lv_at hl 2 rfl) ?_
          refine mcVv (rest := []) (wr := []) ⟨hx, hb, hml, hown, hts⟩ (c_X5_layBack l G cI cQ q (uMbef (uMs z (mEmpties (kMs z) p0 nv nj)) (kMs z)) _) (cwV 0 hts gX5_without_X5_layBack rfl rfl rfl cd_X5_layBack ⟨Nat.le_of_ble_eq_true rfl, Nat.le_of_ble_eq_true rfl⟩) hK hP hD hS hA [0, 1, 2, 3, 4, 5, 6] [] rfl rfl (by decide) (by decide) (by decide) 0 rfl rfl rfl rfl hl.1 rfl (Nat.le_of_ble_eq_true rfl) dX5_without_53 ⟨Nat.zero_le _, Nat.zero_le _⟩ (fun _ H locs _ hP hD hS => ?_)
          have hP : va_P G vwCl ((mdT cI q (uMbef (uMs z (kMs z)) (kMs z)))) H := hP
          have hD : va_D A ((mdT cI q (uMbef (uMs z (kMs z)) (kMs z)))) := hD
          refine lv_iload_n hx hb dX5_without_56 rfl (lv_at hl 0 rfl) ?_
          exact m_ret () hx hb hr hlocks rfl (by first | rfl | (simp only [gWithout, eq_true c_1, eq_true c_2, eq_false c_3, eq_false (Ne.symm c_3), if_true, if_false, and_true, true_and, and_false, false_and, or_true, true_or, or_false, false_or, not_true_eq_false, not_false_eq_true, ne_eq, ite_true, ite_false]; done) | (simp only [gWithout, eq_true c_1, eq_true c_2, eq_false c_3, eq_false (Ne.symm c_3), if_true, if_false, and_true, true_and, and_false, false_and, or_true, true_or, or_false, false_or, not_true_eq_false, not_false_eq_true, ne_eq, ite_true, ite_false]; rfl)) (by rw [show (if pHas nv p0 ∧ pMOpen (kMs z) nv p0 ∧ ¬ mOpens (kMs z) = 1 then uMbef z (kMs z) else z) = (uMbef (uMs z (kMs z)) (kMs z)) from by first | rfl | (simp only [gWithout, eq_true c_1, eq_true c_2, eq_false c_3, eq_false (Ne.symm c_3), if_true, if_false, and_true, true_and, and_false, false_and, or_true, true_or, or_false, false_or, not_true_eq_false, not_false_eq_true, ne_eq, ite_true, ite_false]; done) | (simp only [gWithout, eq_true c_1, eq_true c_2, eq_false c_3, eq_false (Ne.symm c_3), if_true, if_false, and_true, true_and, and_false, false_and, or_true, true_or, or_false, false_or, not_true_eq_false, not_false_eq_true, ne_eq, ite_true, ite_false]; rfl)]; exact hP) (by rw [show (if pHas nv p0 ∧ pMOpen (kMs z) nv p0 ∧ ¬ mOpens (kMs z) = 1 then uMbef z (kMs z) else z) = (uMbef (uMs z (kMs z)) (kMs z)) from by first | rfl | (simp only [gWithout, eq_true c_1, eq_true c_2, eq_false c_3, eq_false (Ne.symm c_3), if_true, if_false, and_true, true_and, and_false, false_and, or_true, true_or, or_false, false_or, not_true_eq_false, not_false_eq_true, ne_eq, ite_true, ite_false]; done) | (simp only [gWithout, eq_true c_1, eq_true c_2, eq_false c_3, eq_false (Ne.symm c_3), if_true, if_false, and_true, true_and, and_false, false_and, or_true, true_or, or_false, false_or, not_true_eq_false, not_false_eq_true, ne_eq, ite_true, ite_false]; rfl)]; exact hD) hS dX5_without_57
        · skip
          exact absurd (nI_pos' (by have h9 := Nat.le_trans (mCnt_le (mShut (kMs z) p0) p0 nj) hm.2.2.2; exact Nat.lt_of_le_of_lt h9 (by decide))) c_4
      · skip
        refine lv_bipush (v := (-2)) hx hb dX5_without_26 (by decide) ?_
        exact m_ret () hx hb hr hlocks rfl (by first | rfl | (simp only [gWithout, eq_true c_1, eq_true c_2, eq_true c_3, eq_true (Eq.symm c_3), if_true, if_false, and_true, true_and, and_false, false_and, or_true, true_or, or_false, false_or, not_true_eq_false, not_false_eq_true, ne_eq, ite_true, ite_false]; done) | (simp only [gWithout, eq_true c_1, eq_true c_2, eq_true c_3, eq_true (Eq.symm c_3), if_true, if_false, and_true, true_and, and_false, false_and, or_true, true_or, or_false, false_or, not_true_eq_false, not_false_eq_true, ne_eq, ite_true, ite_false]; rfl)) (by rw [show (if pHas nv p0 ∧ pMOpen (kMs z) nv p0 ∧ ¬ mOpens (kMs z) = 1 then uMbef z (kMs z) else z) = z from by first | rfl | (simp only [gWithout, eq_true c_1, eq_true c_2, eq_true c_3, eq_true (Eq.symm c_3), if_true, if_false, and_true, true_and, and_false, false_and, or_true, true_or, or_false, false_or, not_true_eq_false, not_false_eq_true, ne_eq, ite_true, ite_false]; done) | (simp only [gWithout, eq_true c_1, eq_true c_2, eq_true c_3, eq_true (Eq.symm c_3), if_true, if_false, and_true, true_and, and_false, false_and, or_true, true_or, or_false, false_or, not_true_eq_false, not_false_eq_true, ne_eq, ite_true, ite_false]; rfl)]; exact hP) (by rw [show (if pHas nv p0 ∧ pMOpen (kMs z) nv p0 ∧ ¬ mOpens (kMs z) = 1 then uMbef z (kMs z) else z) = z from by first | rfl | (simp only [gWithout, eq_true c_1, eq_true c_2, eq_true c_3, eq_true (Eq.symm c_3), if_true, if_false, and_true, true_and, and_false, false_and, or_true, true_or, or_false, false_or, not_true_eq_false, not_false_eq_true, ne_eq, ite_true, ite_false]; done) | (simp only [gWithout, eq_true c_1, eq_true c_2, eq_true c_3, eq_true (Eq.symm c_3), if_true, if_false, and_true, true_and, and_false, false_and, or_true, true_or, or_false, false_or, not_true_eq_false, not_false_eq_true, ne_eq, ite_true, ite_false]; rfl)]; exact hD) hS dX5_without_28
  · skip
    have c_1 := bI_0.mp c_1
    refine lv_iconst (v := (-1)) hx hb dX5_without_8 (by decide) ?_
    exact m_ret () hx hb hr hlocks rfl (by first | rfl | (simp only [gWithout, eq_false c_1, if_true, if_false, and_true, true_and, and_false, false_and, or_true, true_or, or_false, false_or, not_true_eq_false, not_false_eq_true, ne_eq, ite_true, ite_false]; done) | (simp only [gWithout, eq_false c_1, if_true, if_false, and_true, true_and, and_false, false_and, or_true, true_or, or_false, false_or, not_true_eq_false, not_false_eq_true, ne_eq, ite_true, ite_false]; rfl)) (by rw [show (if pHas nv p0 ∧ pMOpen (kMs z) nv p0 ∧ ¬ mOpens (kMs z) = 1 then uMbef z (kMs z) else z) = z from by first | rfl | (simp only [gWithout, eq_false c_1, if_true, if_false, and_true, true_and, and_false, false_and, or_true, true_or, or_false, false_or, not_true_eq_false, not_false_eq_true, ne_eq, ite_true, ite_false]; done) | (simp only [gWithout, eq_false c_1, if_true, if_false, and_true, true_and, and_false, false_and, or_true, true_or, or_false, false_or, not_true_eq_false, not_false_eq_true, ne_eq, ite_true, ite_false]; rfl)]; exact hP) (by rw [show (if pHas nv p0 ∧ pMOpen (kMs z) nv p0 ∧ ¬ mOpens (kMs z) = 1 then uMbef z (kMs z) else z) = z from by first | rfl | (simp only [gWithout, eq_false c_1, if_true, if_false, and_true, true_and, and_false, false_and, or_true, true_or, or_false, false_or, not_true_eq_false, not_false_eq_true, ne_eq, ite_true, ite_false]; done) | (simp only [gWithout, eq_false c_1, if_true, if_false, and_true, true_and, and_false, false_and, or_true, true_or, or_false, false_or, not_true_eq_false, not_false_eq_true, ne_eq, ite_true, ite_false]; rfl)]; exact hD) hS dX5_without_9
theorem cd_X5_without : yX5_without.cls = RX5 ∧ yX5_without.cls ≠ "java/lang/invoke/MethodHandle" ∧ yX5_without.cls ≠ "java/lang/invoke/VarHandle" ∧ (parseMethodDescriptor yX5_without.desc).map (fun d => d.parameters.length) = some 1 := by decide +kernel
