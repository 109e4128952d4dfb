set_option maxHeartbeats 4000000 in
set_option maxRecDepth 100000 in
theorem c_L_refused (l : Launch) (G : va_G) (cI cQ : ClassId) (d : AD) (o : ES) (hE : EI o) (sz0 : Nat) : Met l yL_refused wsL_refused ({ frames := 10, cells := 0, slots := 0, locals := 414 } : Room) (mPc G cI cQ [.ref (adE d)] (XW cI cQ d o) sz0) (va_Qi (fun (r : Int32) (u : ES) => r = 1 ∧ qE o u) (mB G (va_A (XW cI cQ d o) sz0) (XW cI cQ d)) (va_A (XW cI cQ d o) sz0)) 0 0 (va_A (XW cI cQ d o) sz0) := by
  refine mm_of (cc := cL_refused) (maxL := 7) (ret := (some .boolean)) (own := RL) (by decide) rfl rfl (Nat.le_of_ble_eq_true rfl) rfl ?_
  intro p e s m below meth cd ls A hx hb hr hts hown hlocks hml hA hK hP hD hS hl
  have hv6 := ci_nv hE.1.1
  have hj24 := ci_nj hE.1.1
  have hq_o := q_rf hE
  revert hP hD hS
  suffices hall : ∀ (H : Heap) (locs : List Loc), va_P G vwCl (XW cI cQ d o) H → va_D A (XW cI cQ d o) → va_S A s.heap H locs → W p l e ({ frames := 10, cells := 0, slots := 0, locals := 414 } : Room) s m ([.ref (adE d)] : List Value).toArray below meth cd H locs 0 0 (MQ below (va_Qi (fun (r : Int32) (u : ES) => r = 1 ∧ qE o u) (mB G (A) (XW cI cQ d)) (A)) ([.ref (adE d)] : List Value).toArray s 0 0 A) (F0 m 0 ls []) from fun hP hD hS => hall _ _ hP hD hS
  intro H locs hP hD hS
  refine lv_aload_n hx hb dL_refused_0 rfl (lv_at hl 0 rfl) ?_
  refine xlS (rest := []) ⟨hx, hb, hml, hown, hts⟩ (c_L_sum l G cI cQ d o hE) (cwS 1 hts gL_refused_L_sum rfl rfl rfl cd_L_sum ⟨Nat.le_of_ble_eq_true rfl, Nat.le_of_ble_eq_true rfl⟩) hK hP rfl hl.1 rfl (Nat.le_of_ble_eq_true rfl) dL_refused_1 ⟨Nat.le_of_ble_eq_true rfl, Nat.le_of_ble_eq_true rfl⟩ ?_
  refine lv_lstore_n (lv' := [(1, .long (sumF (eC o))), (0, .ref (adE d))]) hx hb dL_refused_4 rfl hl (by decide) rfl (fun ls hl => ?_)
  refine lv_aload_n hx hb dL_refused_5 rfl (lv_at hl 1 rfl) ?_
  refine lv_bipush (v := 13) hx hb dL_refused_6 (by decide) ?_
  refine xpV (rest := []) ⟨hx, hb, hml, hown, hts⟩ (x_count l G cI cQ d o hE 13) (cwV 1 hts gL_refused_X4_count rfl rfl rfl cd_X4_count ⟨Nat.le_of_ble_eq_true rfl, Nat.le_of_ble_eq_true rfl⟩) hK hP rfl hl.1 rfl (Nat.le_of_ble_eq_true rfl) dL_refused_8 ⟨Nat.le_of_ble_eq_true rfl, Nat.le_of_ble_eq_true rfl⟩ ?_
  refine lv_cvt (y := (nI (kde (eH o)))) (rfl) ?_
  refine lv_istore_n (lv' := [(3, .int (nI (kde (eH o)))), (1, .long (sumF (eC o))), (0, .ref (adE d))]) hx hb dL_refused_11 rfl hl (by decide) rfl (fun ls hl => ?_)
  refine lv_aload_n hx hb dL_refused_12 rfl (lv_at hl 2 rfl) ?_
  refine lv_iconst (v := 0) hx hb dL_refused_13 (by decide) ?_
  refine xpV (rest := []) ⟨hx, hb, hml, hown, hts⟩ (x_count l G cI cQ d o hE 0) (cwV 1 hts gL_refused_X4_count rfl rfl rfl cd_X4_count ⟨Nat.le_of_ble_eq_true rfl, Nat.le_of_ble_eq_true rfl⟩) hK hP rfl hl.1 rfl (Nat.le_of_ble_eq_true rfl) dL_refused_14 ⟨Nat.le_of_ble_eq_true rfl, Nat.le_of_ble_eq_true rfl⟩ ?_
  refine lv_cvt (y := (nI (knv (eC o)))) (rfl) ?_
  refine lv_istore (lv' := [(4, .int (nI (knv (eC o)))), (3, .int (nI (kde (eH o)))), (1, .long (sumF (eC o))), (0, .ref (adE d))]) hx hb dL_refused_17 hl (by decide) rfl (fun ls hl => ?_)
  refine lv_aload_n hx hb dL_refused_19 rfl (lv_at hl 3 rfl) ?_
  refine lv_iconst (v := 2) hx hb dL_refused_20 (by decide) ?_
  refine xpV (rest := []) ⟨hx, hb, hml, hown, hts⟩ (x_count l G cI cQ d o hE 2) (cwV 1 hts gL_refused_X4_count rfl rfl rfl cd_X4_count ⟨Nat.le_of_ble_eq_true rfl, Nat.le_of_ble_eq_true rfl⟩) hK hP rfl hl.1 rfl (Nat.le_of_ble_eq_true rfl) dL_refused_21 ⟨Nat.le_of_ble_eq_true rfl, Nat.le_of_ble_eq_true rfl⟩ ?_
  refine lv_cvt (y := (nI (knj (eC o)))) (rfl) ?_
  refine lv_istore (lv' := [(5, .int (nI (knj (eC o)))), (4, .int (nI (knv (eC o)))), (3, .int (nI (kde (eH o)))), (1, .long (sumF (eC o))), (0, .ref (adE d))]) hx hb dL_refused_24 hl (by decide) rfl (fun ls hl => ?_)
  refine lv_aload_n hx hb dL_refused_26 rfl (lv_at hl 4 rfl) ?_
  refine lv_iconst (v := 0) hx hb dL_refused_27 (by decide) ?_
  refine lv_iconst (v := 0) hx hb dL_refused_28 (by decide) ?_
  refine lv_iconst (v := 0) hx hb dL_refused_29 (by decide) ?_
  refine xmV (rest := []) ⟨hx, hb, hml, hown, hts⟩ (x_add l G cI cQ d o hE 0 0 0 _) (cwV 3 hts gL_refused_X4_add rfl rfl rfl cd_X4_add ⟨Nat.le_of_ble_eq_true rfl, Nat.le_of_ble_eq_true rfl⟩) hK hP hD hS hA rfl hl.1 rfl (Nat.le_of_ble_eq_true rfl) dL_refused_30 ⟨Nat.le_of_ble_eq_true rfl, Nat.le_of_ble_eq_true rfl⟩ (fun o1 H locs ho1 hP hD hS => ?_)
  have hr_o1 : (fNewJob (eC o) 0 0 0) = (-1, eC o) := by rw [hq_o.2.1]; exact rf_add0 _
  have hq_o1 : qE o o1 := q_tr hq_o (q_act hE hr_o1 (by decide) ho1)
  refine lv_cvt (y := -1) (congrArg Prod.fst hr_o1) ?_
  have hE_o1 := hq_o1.1
  refine lv_iconst (v := (-1)) hx hb dL_refused_33 (by decide) ?_
  refine lv_icmp_ne (tgt := 271) hx hb dL_refused_34 (by decide) (fun c => absurd c (by decide)) (fun _ => ?_)
  refine lv_aload_n hx hb dL_refused_37 rfl (lv_at hl 4 rfl) ?_
  refine lv_iconst (v := 1) hx hb dL_refused_38 (by decide) ?_
  refine lv_iconst (v := 0) hx hb dL_refused_39 (by decide) ?_
  refine lv_iload hx hb dL_refused_40 (lv_at hl 1 rfl) ?_
  refine xmV (rest := []) ⟨hx, hb, hml, hown, hts⟩ (x_add l G cI cQ d o1 hE_o1 1 0 (nI (knv (eC o))) _) (cwV 3 hts gL_refused_X4_add rfl rfl rfl cd_X4_add ⟨Nat.le_of_ble_eq_true rfl, Nat.le_of_ble_eq_true rfl⟩) hK hP hD hS hA rfl hl.1 rfl (Nat.le_of_ble_eq_true rfl) dL_refused_42 ⟨Nat.le_of_ble_eq_true rfl, Nat.le_of_ble_eq_true rfl⟩ (fun o2 H locs ho2 hP hD hS => ?_)
  have hr_o2 : (fNewJob (eC o1) 1 0 (nI (knv (eC o)))) = (-1, eC o1) := by rw [hq_o1.2.1]; exact rf_addn _
  have hq_o2 : qE o o2 := q_tr hq_o1 (q_act hE_o1 hr_o2 (by decide) ho2)
  refine lv_cvt (y := -1) (congrArg Prod.fst hr_o2) ?_
  have hE_o2 := hq_o2.1
  refine lv_iconst (v := (-1)) hx hb dL_refused_45 (by decide) ?_
  refine lv_icmp_ne (tgt := 271) hx hb dL_refused_46 (by decide) (fun c => absurd c (by decide)) (fun _ => ?_)
  refine lv_aload_n hx hb dL_refused_49 rfl (lv_at hl 4 rfl) ?_
  refine lv_iload hx hb dL_refused_50 (lv_at hl 0 rfl) ?_
  refine xmV (rest := []) ⟨hx, hb, hml, hown, hts⟩ (x_finish l G cI cQ d o2 hE_o2 (nI (knj (eC o))) _) (cwV 1 hts gL_refused_X4_finish rfl rfl rfl cd_X4_finish ⟨Nat.le_of_ble_eq_true rfl, Nat.le_of_ble_eq_true rfl⟩) hK hP hD hS hA rfl hl.1 rfl (Nat.le_of_ble_eq_true rfl) dL_refused_52 ⟨Nat.le_of_ble_eq_true rfl, Nat.le_of_ble_eq_true rfl⟩ (fun o3 H locs ho3 hP hD hS => ?_)
  have hr_o3 : (fEnd (eC o2) (nI (knj (eC o)))) = (-1, eC o2) := by rw [hq_o2.2.1]; exact rf_fin _
  have hq_o3 : qE o o3 := q_tr hq_o2 (q_act hE_o2 hr_o3 (by decide) ho3)
  refine lv_cvt (y := -1) (congrArg Prod.fst hr_o3) ?_
  have hE_o3 := hq_o3.1
  refine lv_iconst (v := (-1)) hx hb dL_refused_55 (by decide) ?_
  refine lv_icmp_ne (tgt := 271) hx hb dL_refused_56 (by decide) (fun c => absurd c (by decide)) (fun _ => ?_)
  refine lv_aload_n hx hb dL_refused_59 rfl (lv_at hl 4 rfl) ?_
  refine lv_iconst (v := (-1)) hx hb dL_refused_60 (by decide) ?_
  refine xmV (rest := []) ⟨hx, hb, hml, hown, hts⟩ (x_setBudget l G cI cQ d o3 hE_o3 (-1) _) (cwV 1 hts gL_refused_X4_setBudget rfl rfl rfl cd_X4_setBudget ⟨Nat.le_of_ble_eq_true rfl, Nat.le_of_ble_eq_true rfl⟩) hK hP hD hS hA rfl hl.1 rfl (Nat.le_of_ble_eq_true rfl) dL_refused_61 ⟨Nat.le_of_ble_eq_true rfl, Nat.le_of_ble_eq_true rfl⟩ (fun o4 H locs ho4 hP hD hS => ?_)
  have hr_o4 : (fBudget (eC o3) (-1)) = (-1, eC o3) := by rw [hq_o3.2.1]; exact rf_bud _
  have hq_o4 : qE o o4 := q_tr hq_o3 (q_act hE_o3 hr_o4 (by decide) ho4)
  refine lv_cvt (y := -1) (congrArg Prod.fst hr_o4) ?_
  have hE_o4 := hq_o4.1
  refine lv_iconst (v := (-1)) hx hb dL_refused_64 (by decide) ?_
  refine lv_icmp_ne (tgt := 271) hx hb dL_refused_65 (by decide) (fun c => absurd c (by decide)) (fun _ => ?_)
  refine lv_aload_n hx hb dL_refused_68 rfl (lv_at hl 4 rfl) ?_
  refine lv_sipush (v := 500) hx hb dL_refused_69 (by decide) ?_
  refine xmV (rest := []) ⟨hx, hb, hml, hown, hts⟩ (x_setFactor l G cI cQ d o4 hE_o4 500 _) (cwV 1 hts gL_refused_X4_setFactor rfl rfl rfl cd_X4_setFactor ⟨Nat.le_of_ble_eq_true rfl, Nat.le_of_ble_eq_true rfl⟩) hK hP hD hS hA rfl hl.1 rfl (Nat.le_of_ble_eq_true rfl) dL_refused_72 ⟨Nat.le_of_ble_eq_true rfl, Nat.le_of_ble_eq_true rfl⟩ (fun o5 H locs ho5 hP hD hS => ?_)
  have hr_o5 : (fFactor (eC o4) 500) = (-1, eC o4) := by rw [hq_o4.2.1]; exact rf_fac _
  have hq_o5 : qE o o5 := q_tr hq_o4 (q_act hE_o4 hr_o5 (by decide) ho5)
  refine lv_cvt (y := -1) (congrArg Prod.fst hr_o5) ?_
  have hE_o5 := hq_o5.1
  refine lv_iconst (v := (-1)) hx hb dL_refused_75 (by decide) ?_
  refine lv_icmp_ne (tgt := 271) hx hb dL_refused_76 (by decide) (fun c => absurd c (by decide)) (fun _ => ?_)
  refine lv_aload_n hx hb dL_refused_79 rfl (lv_at hl 4 rfl) ?_
  refine lv_iload hx hb dL_refused_80 (lv_at hl 0 rfl) ?_
  refine lv_iconst (v := 0) hx hb dL_refused_82 (by decide) ?_
  refine xmV (rest := []) ⟨hx, hb, hml, hown, hts⟩ (x_move l G cI cQ d o5 hE_o5 (nI (knj (eC o))) 0 _) (cwV 2 hts gL_refused_X4_move rfl rfl rfl cd_X4_move ⟨Nat.le_of_ble_eq_true rfl, Nat.le_of_ble_eq_true rfl⟩) hK hP hD hS hA rfl hl.1 rfl (Nat.le_of_ble_eq_true rfl) dL_refused_83 ⟨Nat.le_of_ble_eq_true rfl, Nat.le_of_ble_eq_true rfl⟩ (fun o6 H locs ho6 hP hD hS => ?_)
  have hr_o6 : (fMove (eC o5) (nI (knj (eC o))) 0) = (-1, eC o5) := by rw [hq_o5.2.1]; exact rf_mov _
  have hq_o6 : qE o o6 := q_tr hq_o5 (q_act hE_o5 hr_o6 (by decide) ho6)
  refine lv_cvt (y := -1) (congrArg Prod.fst hr_o6) ?_
  have hE_o6 := hq_o6.1
  refine lv_iconst (v := (-1)) hx hb dL_refused_86 (by decide) ?_
  refine lv_icmp_ne (tgt := 271) hx hb dL_refused_87 (by decide) (fun c => absurd c (by decide)) (fun _ => ?_)
  refine lv_aload_n hx hb dL_refused_90 rfl (lv_at hl 4 rfl) ?_
  refine lv_iconst (v := 0) hx hb dL_refused_91 (by decide) ?_
  refine lv_iload hx hb dL_refused_92 (lv_at hl 0 rfl) ?_
  refine xmV (rest := []) ⟨hx, hb, hml, hown, hts⟩ (x_exchange l G cI cQ d o6 hE_o6 0 (nI (knj (eC o))) _) (cwV 2 hts gL_refused_X4_exchange rfl rfl rfl cd_X4_exchange ⟨Nat.le_of_ble_eq_true rfl, Nat.le_of_ble_eq_true rfl⟩) hK hP hD hS hA rfl hl.1 rfl (Nat.le_of_ble_eq_true rfl) dL_refused_94 ⟨Nat.le_of_ble_eq_true rfl, Nat.le_of_ble_eq_true rfl⟩ (fun o7 H locs ho7 hP hD hS => ?_)
  have hr_o7 : (fExch (eC o6) 0 (nI (knj (eC o)))) = (-1, eC o6) := by rw [hq_o6.2.1]; exact rf_ex1 _
  have hq_o7 : qE o o7 := q_tr hq_o6 (q_act hE_o6 hr_o7 (by decide) ho7)
  refine lv_cvt (y := -1) (congrArg Prod.fst hr_o7) ?_
  have hE_o7 := hq_o7.1
  refine lv_iconst (v := (-1)) hx hb dL_refused_97 (by decide) ?_
  refine lv_icmp_ne (tgt := 271) hx hb dL_refused_98 (by decide) (fun c => absurd c (by decide)) (fun _ => ?_)
  refine lv_aload_n hx hb dL_refused_101 rfl (lv_at hl 4 rfl) ?_
  refine lv_iload hx hb dL_refused_102 (lv_at hl 0 rfl) ?_
  refine lv_iconst (v := 0) hx hb dL_refused_104 (by decide) ?_
  refine xmV (rest := []) ⟨hx, hb, hml, hown, hts⟩ (x_exchange l G cI cQ d o7 hE_o7 (nI (knj (eC o))) 0 _) (cwV 2 hts gL_refused_X4_exchange rfl rfl rfl cd_X4_exchange ⟨Nat.le_of_ble_eq_true rfl, Nat.le_of_ble_eq_true rfl⟩) hK hP hD hS hA rfl hl.1 rfl (Nat.le_of_ble_eq_true rfl) dL_refused_105 ⟨Nat.le_of_ble_eq_true rfl, Nat.le_of_ble_eq_true rfl⟩ (fun o8 H locs ho8 hP hD hS => ?_)
  have hr_o8 : (fExch (eC o7) (nI (knj (eC o))) 0) = (-1, eC o7) := by rw [hq_o7.2.1]; exact rf_ex2 _
  have hq_o8 : qE o o8 := q_tr hq_o7 (q_act hE_o7 hr_o8 (by decide) ho8)
  refine lv_cvt (y := -1) (congrArg Prod.fst hr_o8) ?_
  have hE_o8 := hq_o8.1
  refine lv_iconst (v := (-1)) hx hb dL_refused_108 (by decide) ?_
  refine lv_icmp_ne (tgt := 271) hx hb dL_refused_109 (by decide) (fun c => absurd c (by decide)) (fun _ => ?_)
  refine lv_aload_n hx hb dL_refused_112 rfl (lv_at hl 4 rfl) ?_
  refine lv_iconst (v := 0) hx hb dL_refused_113 (by decide) ?_
  refine lv_iconst (v := 1) hx hb dL_refused_114 (by decide) ?_
  refine lv_iload hx hb dL_refused_115 (lv_at hl 0 rfl) ?_
  refine xmV (rest := []) ⟨hx, hb, hml, hown, hts⟩ (x_ring l G cI cQ d o8 hE_o8 0 1 (nI (knj (eC o))) _) (cwV 3 hts gL_refused_X4_ring rfl rfl rfl cd_X4_ring ⟨Nat.le_of_ble_eq_true rfl, Nat.le_of_ble_eq_true rfl⟩) hK hP hD hS hA rfl hl.1 rfl (Nat.le_of_ble_eq_true rfl) dL_refused_117 ⟨Nat.le_of_ble_eq_true rfl, Nat.le_of_ble_eq_true rfl⟩ (fun o9 H locs ho9 hP hD hS => ?_)
  have hr_o9 : (fRing (eC o8) 0 1 (nI (knj (eC o)))) = (-1, eC o8) := by rw [hq_o8.2.1]; exact rf_ring _
  have hq_o9 : qE o o9 := q_tr hq_o8 (q_act hE_o8 hr_o9 (by decide) ho9)
  refine lv_cvt (y := -1) (congrArg Prod.fst hr_o9) ?_
  have hE_o9 := hq_o9.1
  refine lv_iconst (v := (-1)) hx hb dL_refused_120 (by decide) ?_
  refine lv_icmp_ne (tgt := 271) hx hb dL_refused_121 (by decide) (fun c => absurd c (by decide)) (fun _ => ?_)
  refine lv_aload_n hx hb dL_refused_124 rfl (lv_at hl 4 rfl) ?_
  refine lv_iconst (v := 0) hx hb dL_refused_125 (by decide) ?_
  refine xmV (rest := []) ⟨hx, hb, hml, hown, hts⟩ (x_even l G cI cQ d o9 hE_o9 0 _) (cwV 1 hts gL_refused_X4_even rfl rfl rfl cd_X4_even ⟨Nat.le_of_ble_eq_true rfl, Nat.le_of_ble_eq_true rfl⟩) hK hP hD hS hA rfl hl.1 rfl (Nat.le_of_ble_eq_true rfl) dL_refused_126 ⟨Nat.le_of_ble_eq_true rfl, Nat.le_of_ble_eq_true rfl⟩ (fun o10 H locs ho10 hP hD hS => ?_)
  have hr_o10 : (fWalk (eC o9) (eX o9) 0) = (-1, (eC o9, eX o9)) := by rw [hq_o9.2.1]; exact rf_even _ _
  have hq_o10 : qE o o10 := q_tr hq_o9 (q_even hE_o9 hr_o10 (by decide) ho10)
  refine lv_cvt (y := -1) (congrArg Prod.fst hr_o10) ?_
  have hE_o10 := hq_o10.1
  refine lv_iconst (v := (-1)) hx hb dL_refused_129 (by decide) ?_
  refine lv_icmp_ne (tgt := 271) hx hb dL_refused_130 (by decide) (fun c => absurd c (by decide)) (fun _ => ?_)
  refine lv_aload_n hx hb dL_refused_133 rfl (lv_at hl 4 rfl) ?_
  refine lv_iload hx hb dL_refused_134 (lv_at hl 1 rfl) ?_
  refine xmV (rest := []) ⟨hx, hb, hml, hown, hts⟩ (x_close l G cI cQ d o10 hE_o10 (nI (knv (eC o))) _) (cwV 1 hts gL_refused_X4_close rfl rfl rfl cd_X4_close ⟨Nat.le_of_ble_eq_true rfl, Nat.le_of_ble_eq_true rfl⟩) hK hP hD hS hA rfl hl.1 rfl (Nat.le_of_ble_eq_true rfl) dL_refused_136 ⟨Nat.le_of_ble_eq_true rfl, Nat.le_of_ble_eq_true rfl⟩ (fun o11 H locs ho11 hP hD hS => ?_)
  have hr_o11 : (fClose (eC o10) (nI (knv (eC o)))) = (-1, eC o10) := by rw [hq_o10.2.1]; exact rf_close _
  have hq_o11 : qE o o11 := q_tr hq_o10 (q_act hE_o10 hr_o11 (by decide) ho11)
  refine lv_cvt (y := -1) (congrArg Prod.fst hr_o11) ?_
  have hE_o11 := hq_o11.1
  refine lv_iconst (v := (-1)) hx hb dL_refused_139 (by decide) ?_
  refine lv_icmp_ne (tgt := 271) hx hb dL_refused_140 (by decide) (fun c => absurd c (by decide)) (fun _ => ?_)
  refine lv_aload_n hx hb dL_refused_143 rfl (lv_at hl 4 rfl) ?_
  refine lv_iload hx hb dL_refused_144 (lv_at hl 1 rfl) ?_
  refine xmV (rest := []) ⟨hx, hb, hml, hown, hts⟩ (x_open l G cI cQ d o11 hE_o11 (nI (knv (eC o))) _) (cwV 1 hts gL_refused_X4_open rfl rfl rfl cd_X4_open ⟨Nat.le_of_ble_eq_true rfl, Nat.le_of_ble_eq_true rfl⟩) hK hP hD hS hA rfl hl.1 rfl (Nat.le_of_ble_eq_true rfl) dL_refused_146 ⟨Nat.le_of_ble_eq_true rfl, Nat.le_of_ble_eq_true rfl⟩ (fun o12 H locs ho12 hP hD hS => ?_)
  have hr_o12 : (fOpen (eC o11) (nI (knv (eC o)))) = (-1, eC o11) := by rw [hq_o11.2.1]; exact rf_open _
  have hq_o12 : qE o o12 := q_tr hq_o11 (q_act hE_o11 hr_o12 (by decide) ho12)
  refine lv_cvt (y := -1) (congrArg Prod.fst hr_o12) ?_
  have hE_o12 := hq_o12.1
  refine lv_iconst (v := (-1)) hx hb dL_refused_149 (by decide) ?_
  refine lv_icmp_ne (tgt := 271) hx hb dL_refused_150 (by decide) (fun c => absurd c (by decide)) (fun _ => ?_)
  refine lv_aload_n hx hb dL_refused_153 rfl (lv_at hl 4 rfl) ?_
  refine lv_iload hx hb dL_refused_154 (lv_at hl 1 rfl) ?_
  refine lv_iconst (v := 0) hx hb dL_refused_156 (by decide) ?_
  refine xpV (rest := []) ⟨hx, hb, hml, hown, hts⟩ (x_server l G cI cQ d o12 hE_o12 (nI (knv (eC o))) 0) (cwV 2 hts gL_refused_X4_server rfl rfl rfl cd_X4_server ⟨Nat.le_of_ble_eq_true rfl, Nat.le_of_ble_eq_true rfl⟩) hK hP rfl hl.1 rfl (Nat.le_of_ble_eq_true rfl) dL_refused_157 ⟨Nat.le_of_ble_eq_true rfl, Nat.le_of_ble_eq_true rfl⟩ ?_
  refine lv_cvt (y := -1) (by rw [hq_o12.2.1]; exact rf_srv _) ?_
  refine lv_iconst (v := (-1)) hx hb dL_refused_160 (by decide) ?_
  refine lv_icmp_ne (tgt := 271) hx hb dL_refused_161 (by decide) (fun c => absurd c (by decide)) (fun _ => ?_)
  refine lv_aload_n hx hb dL_refused_164 rfl (lv_at hl 4 rfl) ?_
  refine lv_iload hx hb dL_refused_165 (lv_at hl 0 rfl) ?_
  refine lv_iconst (v := 0) hx hb dL_refused_167 (by decide) ?_
  refine xpV (rest := []) ⟨hx, hb, hml, hown, hts⟩ (x_job l G cI cQ d o12 hE_o12 (nI (knj (eC o))) 0) (cwV 2 hts gL_refused_X4_job rfl rfl rfl cd_X4_job ⟨Nat.le_of_ble_eq_true rfl, Nat.le_of_ble_eq_true rfl⟩) hK hP rfl hl.1 rfl (Nat.le_of_ble_eq_true rfl) dL_refused_168 ⟨Nat.le_of_ble_eq_true rfl, Nat.le_of_ble_eq_true rfl⟩ ?_
  refine lv_cvt (y := -1) (by rw [hq_o12.2.1]; exact rf_job _) ?_
  refine lv_iconst (v := (-1)) hx hb dL_refused_171 (by decide) ?_
  refine lv_icmp_ne (tgt := 271) hx hb dL_refused_172 (by decide) (fun c => absurd c (by decide)) (fun _ => ?_)
  refine lv_aload_n hx hb dL_refused_175 rfl (lv_at hl 4 rfl) ?_
  refine lv_iload hx hb dL_refused_176 (lv_at hl 1 rfl) ?_
  refine lv_iconst (v := 0) hx hb dL_refused_178 (by decide) ?_
  refine xpV (rest := []) ⟨hx, hb, hml, hown, hts⟩ (x_leaving l G cI cQ d o12 hE_o12 (nI (knv (eC o))) 0) (cwV 2 hts gL_refused_X4_leaving rfl rfl rfl cd_X4_leaving ⟨Nat.le_of_ble_eq_true rfl, Nat.le_of_ble_eq_true rfl⟩) hK hP rfl hl.1 rfl (Nat.le_of_ble_eq_true rfl) dL_refused_179 ⟨Nat.le_of_ble_eq_true rfl, Nat.le_of_ble_eq_true rfl⟩ ?_
  refine lv_cvt (y := -1) (by rw [hq_o12.2.1]; exact rf_lv _) ?_
  refine lv_iconst (v := (-1)) hx hb dL_refused_182 (by decide) ?_
  refine lv_icmp_ne (tgt := 271) hx hb dL_refused_183 (by decide) (fun c => absurd c (by decide)) (fun _ => ?_)
  refine lv_aload_n hx hb dL_refused_186 rfl (lv_at hl 4 rfl) ?_
  refine lv_bipush (v := 9) hx hb dL_refused_187 (by decide) ?_
  refine xmV (rest := []) ⟨hx, hb, hml, hown, hts⟩ (x_step l G cI cQ d o12 hE_o12 9 _) (cwV 1 hts gL_refused_X4_step rfl rfl rfl cd_X4_step ⟨Nat.le_of_ble_eq_true rfl, Nat.le_of_ble_eq_true rfl⟩) hK hP hD hS hA rfl hl.1 rfl (Nat.le_of_ble_eq_true rfl) dL_refused_189 ⟨Nat.le_of_ble_eq_true rfl, Nat.le_of_ble_eq_true rfl⟩ (fun o13 H locs ho13 hP hD hS => ?_)
  have hq_o13 : qE o o13 := q_tr hq_o12 (q_step hE_o12 ho13)
  refine lv_cvt (y := -1) (by rw [hq_o12.2.1]; exact rf_step _ _) ?_
  have hE_o13 := hq_o13.1
  refine lv_iconst (v := (-1)) hx hb dL_refused_192 (by decide) ?_
  refine lv_icmp_ne (tgt := 271) hx hb dL_refused_193 (by decide) (fun c => absurd c (by decide)) (fun _ => ?_)
  refine lv_aload_n hx hb dL_refused_196 rfl (lv_at hl 4 rfl) ?_
  refine lv_iconst (v := (-1)) hx hb dL_refused_197 (by decide) ?_
  refine xmV (rest := []) ⟨hx, hb, hml, hown, hts⟩ (x_plan l G cI cQ d o13 hE_o13 (-1) _) (cwV 1 hts gL_refused_X4_plan rfl rfl rfl cd_X4_plan ⟨Nat.le_of_ble_eq_true rfl, Nat.le_of_ble_eq_true rfl⟩) hK hP hD hS hA rfl hl.1 rfl (Nat.le_of_ble_eq_true rfl) dL_refused_198 ⟨Nat.le_of_ble_eq_true rfl, Nat.le_of_ble_eq_true rfl⟩ (fun o14 H locs ho14 hP hD hS => ?_)
  have hq_o14 : qE o o14 := q_tr hq_o13 (q_plan hE_o13 ho14)
  refine lv_cvt (y := -1) (by rw [hq_o13.2.1]; exact rf_plan _ _) ?_
  have hE_o14 := hq_o14.1
  refine lv_iconst (v := (-1)) hx hb dL_refused_201 (by decide) ?_
  refine lv_icmp_ne (tgt := 271) hx hb dL_refused_202 (by decide) (fun c => absurd c (by decide)) (fun _ => ?_)
  refine lv_aload_n hx hb dL_refused_205 rfl (lv_at hl 4 rfl) ?_
  refine lv_iconst (v := 2) hx hb dL_refused_206 (by decide) ?_
  refine xmV (rest := []) ⟨hx, hb, hml, hown, hts⟩ (x_fewest l G cI cQ d o14 hE_o14 2 _) (cwV 1 hts gL_refused_X4_fewest rfl rfl rfl cd_X4_fewest ⟨Nat.le_of_ble_eq_true rfl, Nat.le_of_ble_eq_true rfl⟩) hK hP hD hS hA rfl hl.1 rfl (Nat.le_of_ble_eq_true rfl) dL_refused_207 ⟨Nat.le_of_ble_eq_true rfl, Nat.le_of_ble_eq_true rfl⟩ (fun o15 H locs ho15 hP hD hS => ?_)
  have hq_o15 : qE o o15 := q_tr hq_o14 (q_few hE_o14 ho15)
  refine lv_cvt (y := -1) (by rw [hq_o14.2.1]; exact rf_few _) ?_
  have hE_o15 := hq_o15.1
  refine lv_iconst (v := (-1)) hx hb dL_refused_210 (by decide) ?_
  refine lv_icmp_ne (tgt := 271) hx hb dL_refused_211 (by decide) (fun c => absurd c (by decide)) (fun _ => ?_)
  refine lv_aload_n hx hb dL_refused_214 rfl (lv_at hl 4 rfl) ?_
  refine lv_iload hx hb dL_refused_215 (lv_at hl 1 rfl) ?_
  refine xmV (rest := []) ⟨hx, hb, hml, hown, hts⟩ (x_without l G cI cQ d o15 hE_o15 (nI (knv (eC o))) _) (cwV 1 hts gL_refused_X4_without rfl rfl rfl cd_X4_without ⟨Nat.le_of_ble_eq_true rfl, Nat.le_of_ble_eq_true rfl⟩) hK hP hD hS hA rfl hl.1 rfl (Nat.le_of_ble_eq_true rfl) dL_refused_217 ⟨Nat.le_of_ble_eq_true rfl, Nat.le_of_ble_eq_true rfl⟩ (fun o16 H locs ho16 hP hD hS => ?_)
  have hq_o16 : qE o o16 := q_tr hq_o15 (q_wo hE_o15 ho16)
  refine lv_cvt (y := -1) (by rw [hq_o15.2.1]; exact rf_wo _) ?_
  have hE_o16 := hq_o16.1
  refine lv_iconst (v := (-1)) hx hb dL_refused_220 (by decide) ?_
  refine lv_icmp_ne (tgt := 271) hx hb dL_refused_221 (by decide) (fun c => absurd c (by decide)) (fun _ => ?_)
  refine lv_aload_n hx hb dL_refused_224 rfl (lv_at hl 4 rfl) ?_
  refine lv_bipush (v := 15) hx hb dL_refused_225 (by decide) ?_
  refine xpV (rest := []) ⟨hx, hb, hml, hown, hts⟩ (x_count l G cI cQ d o16 hE_o16 15) (cwV 1 hts gL_refused_X4_count rfl rfl rfl cd_X4_count ⟨Nat.le_of_ble_eq_true rfl, Nat.le_of_ble_eq_true rfl⟩) hK hP rfl hl.1 rfl (Nat.le_of_ble_eq_true rfl) dL_refused_227 ⟨Nat.le_of_ble_eq_true rfl, Nat.le_of_ble_eq_true rfl⟩ ?_
  refine lv_cvt (y := (-1)) (rfl) ?_
  refine lv_iconst (v := (-1)) hx hb dL_refused_230 (by decide) ?_
  refine lv_icmp_ne (tgt := 271) hx hb dL_refused_231 (by decide) (fun c => absurd c (by decide)) (fun _ => ?_)
  have K267 : ∀ (o_K267 : ES), qE o o_K267 → ∀ (H : Heap) (locs : List Loc), va_P G vwCl (XW cI cQ d o_K267) H → va_D A (XW cI cQ d o_K267) → va_S A s.heap H locs → ∀ (ls : Array Slot), lv_has ls 7 [(5, .int (nI (knj (eC o)))), (4, .int (nI (knv (eC o)))), (3, .int (nI (kde (eH o)))), (1, .long (sumF (eC o))), (0, .ref (adE d))] → W p l e ({ frames := 10, cells := 0, slots := 0, locals := 414 } : Room) s m ([.ref (adE d)] : List Value).toArray below meth cd H locs 0 0 (MQ below (va_Qi (fun (r : Int32) (u : ES) => r = 1 ∧ qE o u) (mB G (A) (XW cI cQ d)) (A)) ([.ref (adE d)] : List Value).toArray s 0 0 A) (F0 m 267 ls []) := by
    intro o_K267 hq_o_K267 H locs hP hD hS ls hl
    have hE_o_K267 := hq_o_K267.1
    refine lv_iconst (v := 1) hx hb dL_refused_267 (by decide) ?_
    refine lv_goto (tgt := 272) hx hb dL_refused_268 (by decide) ?_
    refine lv_istore (lv' := [(6, .int 1), (5, .int (nI (knj (eC o)))), (4, .int (nI (knv (eC o)))), (3, .int (nI (kde (eH o)))), (1, .long (sumF (eC o))), (0, .ref (adE d))]) hx hb dL_refused_272 hl (by decide) rfl (fun ls hl => ?_)
    refine lv_iload hx hb dL_refused_274 (lv_at hl 0 rfl) ?_
    refine lv_if_eq (tgt := 302) hx hb dL_refused_276 (by decide) (fun c => absurd c (by decide)) (fun _ => ?_)
    refine lv_aload_n hx hb dL_refused_279 rfl (lv_at hl 5 rfl) ?_
    refine xlS (rest := []) ⟨hx, hb, hml, hown, hts⟩ (c_L_sum l G cI cQ d o_K267 hE_o_K267) (cwS 1 hts gL_refused_L_sum rfl rfl rfl cd_L_sum ⟨Nat.le_of_ble_eq_true rfl, Nat.le_of_ble_eq_true rfl⟩) hK hP rfl hl.1 rfl (Nat.le_of_ble_eq_true rfl) dL_refused_280 ⟨Nat.le_of_ble_eq_true rfl, Nat.le_of_ble_eq_true rfl⟩ ?_
    refine lv_lload_n hx hb dL_refused_283 rfl (lv_at hl 4 rfl) ?_
    refine W.lcmp hx hb dL_refused_284 ?_
    refine lv_cvt (y := 0) (by rw [hq_o_K267.2.1]; exact lcmp_eq _) ?_
    refine lv_if_ne (tgt := 302) hx hb dL_refused_285 (by decide) (fun c => False.elim (c rfl)) (fun _ => ?_)
    refine lv_aload_n hx hb dL_refused_288 rfl (lv_at hl 5 rfl) ?_
    refine lv_bipush (v := 13) hx hb dL_refused_289 (by decide) ?_
    refine xpV (rest := []) ⟨hx, hb, hml, hown, hts⟩ (x_count l G cI cQ d o_K267 hE_o_K267 13) (cwV 1 hts gL_refused_X4_count rfl rfl rfl cd_X4_count ⟨Nat.le_of_ble_eq_true rfl, Nat.le_of_ble_eq_true rfl⟩) hK hP rfl hl.1 rfl (Nat.le_of_ble_eq_true rfl) dL_refused_291 ⟨Nat.le_of_ble_eq_true rfl, Nat.le_of_ble_eq_true rfl⟩ ?_
    refine lv_cvt (y := (nI (kde (eH o)))) (congrArg (fun z => nI (kde z)) hq_o_K267.2.2) ?_
    refine lv_iload_n hx hb dL_refused_294 rfl (lv_at hl 3 rfl) ?_
    refine lv_icmp_ne (tgt := 302) hx hb dL_refused_295 (by decide) (fun c => False.elim (c rfl)) (fun _ => ?_)
    refine lv_iconst (v := 1) hx hb dL_refused_298 (by decide) ?_
    refine lv_goto (tgt := 303) hx hb dL_refused_299 (by decide) ?_
    exact m_ret (ty := .boolean) o_K267 hx hb hr hlocks rfl ⟨rfl, hq_o_K267⟩ hP hD hS dL_refused_303
  have K250 : ∀ (o_K250 : ES), qE o o_K250 → ∀ (H : Heap) (locs : List Loc), va_P G vwCl (XW cI cQ d o_K250) H → va_D A (XW cI cQ d o_K250) → va_S A s.heap H locs → ∀ (ls : Array Slot), lv_has ls 7 [(5, .int (nI (knj (eC o)))), (4, .int (nI (knv (eC o)))), (3, .int (nI (kde (eH o)))), (1, .long (sumF (eC o))), (0, .ref (adE d))] → W p l e ({ frames := 10, cells := 0, slots := 0, locals := 414 } : Room) s m ([.ref (adE d)] : List Value).toArray below meth cd H locs 0 0 (MQ below (va_Qi (fun (r : Int32) (u : ES) => r = 1 ∧ qE o u) (mB G (A) (XW cI cQ d)) (A)) ([.ref (adE d)] : List Value).toArray s 0 0 A) (F0 m 250 ls []) := by
    intro o_K250 hq_o_K250 H locs hP hD hS ls hl
    have hE_o_K250 := hq_o_K250.1
    refine lv_iload hx hb dL_refused_250 (lv_at hl 0 rfl) ?_
    refine lv_bipush (v := 24) hx hb dL_refused_252 (by decide) ?_
    refine lv_icmp_lt (tgt := 267) hx hb dL_refused_254 (by decide) (fun c254 => ?_) (fun c254 => ?_)
    · skip
      refine lv_iconst (v := 1) hx hb dL_refused_267 (by decide) ?_
      refine lv_goto (tgt := 272) hx hb dL_refused_268 (by decide) ?_
      refine lv_istore (lv' := [(6, .int 1), (5, .int (nI (knj (eC o)))), (4, .int (nI (knv (eC o)))), (3, .int (nI (kde (eH o)))), (1, .long (sumF (eC o))), (0, .ref (adE d))]) hx hb dL_refused_272 hl (by decide) rfl (fun ls hl => ?_)
      refine lv_iload hx hb dL_refused_274 (lv_at hl 0 rfl) ?_
      refine lv_if_eq (tgt := 302) hx hb dL_refused_276 (by decide) (fun c => absurd c (by decide)) (fun _ => ?_)
      refine lv_aload_n hx hb dL_refused_279 rfl (lv_at hl 5 rfl) ?_
      refine xlS (rest := []) ⟨hx, hb, hml, hown, hts⟩ (c_L_sum l G cI cQ d o_K250 hE_o_K250) (cwS 1 hts gL_refused_L_sum rfl rfl rfl cd_L_sum ⟨Nat.le_of_ble_eq_true rfl, Nat.le_of_ble_eq_true rfl⟩) hK hP rfl hl.1 rfl (Nat.le_of_ble_eq_true rfl) dL_refused_280 ⟨Nat.le_of_ble_eq_true rfl, Nat.le_of_ble_eq_true rfl⟩ ?_
      refine lv_lload_n hx hb dL_refused_283 rfl (lv_at hl 4 rfl) ?_
      refine W.lcmp hx hb dL_refused_284 ?_
      refine lv_cvt (y := 0) (by rw [hq_o_K250.2.1]; exact lcmp_eq _) ?_
      refine lv_if_ne (tgt := 302) hx hb dL_refused_285 (by decide) (fun c => False.elim (c rfl)) (fun _ => ?_)
      refine lv_aload_n hx hb dL_refused_288 rfl (lv_at hl 5 rfl) ?_
      refine lv_bipush (v := 13) hx hb dL_refused_289 (by decide) ?_
      refine xpV (rest := []) ⟨hx, hb, hml, hown, hts⟩ (x_count l G cI cQ d o_K250 hE_o_K250 13) (cwV 1 hts gL_refused_X4_count rfl rfl rfl cd_X4_count ⟨Nat.le_of_ble_eq_true rfl, Nat.le_of_ble_eq_true rfl⟩) hK hP rfl hl.1 rfl (Nat.le_of_ble_eq_true rfl) dL_refused_291 ⟨Nat.le_of_ble_eq_true rfl, Nat.le_of_ble_eq_true rfl⟩ ?_
      refine lv_cvt (y := (nI (kde (eH o)))) (congrArg (fun z => nI (kde z)) hq_o_K250.2.2) ?_
      refine lv_iload_n hx hb dL_refused_294 rfl (lv_at hl 3 rfl) ?_
      refine lv_icmp_ne (tgt := 302) hx hb dL_refused_295 (by decide) (fun c => False.elim (c rfl)) (fun _ => ?_)
      refine lv_iconst (v := 1) hx hb dL_refused_298 (by decide) ?_
      refine lv_goto (tgt := 303) hx hb dL_refused_299 (by decide) ?_
      exact m_ret (ty := .boolean) o_K250 hx hb hr hlocks rfl ⟨rfl, hq_o_K250⟩ hP hD hS dL_refused_303
    · skip
      refine lv_aload_n hx hb dL_refused_257 rfl (lv_at hl 4 rfl) ?_
      refine lv_iconst (v := 1) hx hb dL_refused_258 (by decide) ?_
      refine lv_iconst (v := 0) hx hb dL_refused_259 (by decide) ?_
      refine lv_iconst (v := 0) hx hb dL_refused_260 (by decide) ?_
      refine xmV (rest := []) ⟨hx, hb, hml, hown, hts⟩ (x_add l G cI cQ d o_K250 hE_o_K250 1 0 0 _) (cwV 3 hts gL_refused_X4_add rfl rfl rfl cd_X4_add ⟨Nat.le_of_ble_eq_true rfl, Nat.le_of_ble_eq_true rfl⟩) hK hP hD hS hA rfl hl.1 rfl (Nat.le_of_ble_eq_true rfl) dL_refused_261 ⟨Nat.le_of_ble_eq_true rfl, Nat.le_of_ble_eq_true rfl⟩ (fun o17 H locs ho17 hP hD hS => ?_)
      obtain ⟨r9, hr9, hr_o17⟩ := rf_job24 hE_o_K250.1.1 (by rw [hq_o_K250.2.1]; exact c254)
      have hq_o17 : qE o o17 := q_tr hq_o_K250 (q_act hE_o_K250 hr_o17 hr9 ho17)
      have hE_o17 := hq_o17.1
      refine lv_cvt (y := r9) (by rw [hr_o17]) ?_
      refine lv_if_ge (tgt := 271) hx hb dL_refused_264 (by decide) (fun c => False.elim ((Int32.not_le.mpr hr9) c)) (fun _ => ?_)
      refine lv_iconst (v := 1) hx hb dL_refused_267 (by decide) ?_
      refine lv_goto (tgt := 272) hx hb dL_refused_268 (by decide) ?_
      refine lv_istore (lv' := [(6, .int 1), (5, .int (nI (knj (eC o)))), (4, .int (nI (knv (eC o)))), (3, .int (nI (kde (eH o)))), (1, .long (sumF (eC o))), (0, .ref (adE d))]) hx hb dL_refused_272 hl (by decide) rfl (fun ls hl => ?_)
      refine lv_iload hx hb dL_refused_274 (lv_at hl 0 rfl) ?_
      refine lv_if_eq (tgt := 302) hx hb dL_refused_276 (by decide) (fun c => absurd c (by decide)) (fun _ => ?_)
      refine lv_aload_n hx hb dL_refused_279 rfl (lv_at hl 5 rfl) ?_
      refine xlS (rest := []) ⟨hx, hb, hml, hown, hts⟩ (c_L_sum l G cI cQ d o17 hE_o17) (cwS 1 hts gL_refused_L_sum rfl rfl rfl cd_L_sum ⟨Nat.le_of_ble_eq_true rfl, Nat.le_of_ble_eq_true rfl⟩) hK hP rfl hl.1 rfl (Nat.le_of_ble_eq_true rfl) dL_refused_280 ⟨Nat.le_of_ble_eq_true rfl, Nat.le_of_ble_eq_true rfl⟩ ?_
      refine lv_lload_n hx hb dL_refused_283 rfl (lv_at hl 4 rfl) ?_
      refine W.lcmp hx hb dL_refused_284 ?_
      refine lv_cvt (y := 0) (by rw [hq_o17.2.1]; exact lcmp_eq _) ?_
      refine lv_if_ne (tgt := 302) hx hb dL_refused_285 (by decide) (fun c => False.elim (c rfl)) (fun _ => ?_)
      refine lv_aload_n hx hb dL_refused_288 rfl (lv_at hl 5 rfl) ?_
      refine lv_bipush (v := 13) hx hb dL_refused_289 (by decide) ?_
      refine xpV (rest := []) ⟨hx, hb, hml, hown, hts⟩ (x_count l G cI cQ d o17 hE_o17 13) (cwV 1 hts gL_refused_X4_count rfl rfl rfl cd_X4_count ⟨Nat.le_of_ble_eq_true rfl, Nat.le_of_ble_eq_true rfl⟩) hK hP rfl hl.1 rfl (Nat.le_of_ble_eq_true rfl) dL_refused_291 ⟨Nat.le_of_ble_eq_true rfl, Nat.le_of_ble_eq_true rfl⟩ ?_
      refine lv_cvt (y := (nI (kde (eH o)))) (congrArg (fun z => nI (kde z)) hq_o17.2.2) ?_
      refine lv_iload_n hx hb dL_refused_294 rfl (lv_at hl 3 rfl) ?_
      refine lv_icmp_ne (tgt := 302) hx hb dL_refused_295 (by decide) (fun c => False.elim (c rfl)) (fun _ => ?_)
      refine lv_iconst (v := 1) hx hb dL_refused_298 (by decide) ?_
      refine lv_goto (tgt := 303) hx hb dL_refused_299 (by decide) ?_
      exact m_ret (ty := .boolean) o17 hx hb hr hlocks rfl ⟨rfl, hq_o17⟩ hP hD hS dL_refused_303
  refine lv_iload hx hb dL_refused_234 (lv_at hl 1 rfl) ?_
  refine lv_bipush (v := 6) hx hb dL_refused_236 (by decide) ?_
  refine lv_icmp_lt (tgt := 250) hx hb dL_refused_238 (by decide) (fun c238 => ?_) (fun c238 => ?_)
  · skip
    exact K250 o16 hq_o16 H locs hP hD hS ls hl
  · skip
    refine lv_aload_n hx hb dL_refused_241 rfl (lv_at hl 4 rfl) ?_
    refine xmV (rest := []) ⟨hx, hb, hml, hown, hts⟩ (x_addServer l G cI cQ d o16 hE_o16  _) (cwV 0 hts gL_refused_X4_addServer rfl rfl rfl cd_X4_addServer ⟨Nat.le_of_ble_eq_true rfl, Nat.le_of_ble_eq_true rfl⟩) hK hP hD hS hA rfl hl.1 rfl (Nat.le_of_ble_eq_true rfl) dL_refused_242 ⟨Nat.le_of_ble_eq_true rfl, Nat.le_of_ble_eq_true rfl⟩ (fun o18 H locs ho18 hP hD hS => ?_)
    have hr_o18 : fNewServer (eC o16) = (-3, eC o16) := rf_srv6 hE_o16.1.1 (by rw [hq_o16.2.1]; exact c238)
    have hq_o18 : qE o o18 := q_tr hq_o16 (q_act hE_o16 (v := -3) hr_o18 (by decide) ho18)
    have hE_o18 := hq_o18.1
    refine lv_cvt (y := -3) (by rw [hr_o18]) ?_
    refine lv_bipush (v := (-3)) hx hb dL_refused_245 (by decide) ?_
    refine lv_icmp_ne (tgt := 271) hx hb dL_refused_247 (by decide) (fun c => absurd c (by decide)) (fun _ => ?_)
    exact K250 o18 hq_o18 H locs hP hD hS ls hl
theorem cd_L_refused : yL_refused.cls = RL ∧ yL_refused.cls ≠ "java/lang/invoke/MethodHandle" ∧ yL_refused.cls ≠ "java/lang/invoke/VarHandle" ∧ (parseMethodDescriptor yL_refused.desc).map (fun d => d.parameters.length) = some 1 := by decide +kernel
