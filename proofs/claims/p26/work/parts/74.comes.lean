theorem vc9 (c : CS) (v : HW) (y : PS) : sCount c v y 9 = if pEven c then (1 : Int32) else 0 := rfl
set_option maxHeartbeats 20000000 in
set_option maxRecDepth 100000 in
theorem c_L_comesSo (l : Launch) (G : va_G) (cI cQ : ClassId) (d : AD) (o : ES) (hE : EI o) (sz0 : Nat) : Met l yL_comesSo wsL_comesSo ({ frames := 6, cells := 0, slots := 0, locals := 187 } : Room) (mPc G cI cQ [.ref (adE d)] (XW cI cQ d o) sz0) (va_Qi (fun (r : Int32) (u : ES) => r = 1 ∧ (EI u ∧ eC u = eC o)) (mB G (va_A (XW cI cQ d o) sz0) (XW cI cQ d)) (va_A (XW cI cQ d o) sz0)) 0 0 (va_A (XW cI cQ d o) sz0) := by
  refine mm_of (cc := cL_comesSo) (maxL := 17) (ret := (some .boolean)) (own := RL) (by decide) rfl rfl (Nat.le_of_ble_eq_true rfl) rfl ?_
  intro p e s m below meth cd ls A hx hb hr hts hown hlocks hml hA hK hP hD hS hl
  have w := hE.1
  have hj24 := ci_nj w.1
  have hv6 := ci_nv w.1
  have hq_o := q_rf hE
  obtain ⟨pd1, pd2, pd3, pd4, pd5, pd6, ⟨mm, pd7, pd8, pd9⟩, pd10⟩ := pd_ok w
  revert hP hD hS
  suffices hall : ∀ (H : Heap) (locs : List Loc), va_P G vwCl (XW cI cQ d o) H → va_D A (XW cI cQ d o) → va_S A s.heap H locs → W p l e ({ frames := 6, cells := 0, slots := 0, locals := 187 } : Room) s m ([.ref (adE d)] : List Value).toArray below meth cd H locs 0 0 (MQ below (va_Qi (fun (r : Int32) (u : ES) => r = 1 ∧ (EI u ∧ eC u = eC o)) (mB G (A) (XW cI cQ d)) (A)) ([.ref (adE d)] : List Value).toArray s 0 0 A) (F0 m 0 ls []) from fun hP hD hS => hall _ _ hP hD hS
  intro H locs hP hD hS
  refine lv_aload_n hx hb dL_comesSo_0 rfl (lv_at hl 0 rfl) ?_
  refine xlS (rest := []) ⟨hx, hb, hml, hown, hts⟩ (c_L_sum l G cI cQ d o hE) (cwS 1 hts gL_comesSo_L_sum rfl rfl rfl cd_L_sum ⟨Nat.le_of_ble_eq_true rfl, Nat.le_of_ble_eq_true rfl⟩) hK hP rfl hl.1 rfl (Nat.le_of_ble_eq_true rfl) dL_comesSo_1 ⟨Nat.le_of_ble_eq_true rfl, Nat.le_of_ble_eq_true rfl⟩ ?_
  refine lv_lstore_n (lv' := [(1, .long (sumF (eC o))), (0, .ref (adE d))]) hx hb dL_comesSo_4 rfl hl (by decide) rfl (fun ls hl => ?_)
  refine lv_aload_n hx hb dL_comesSo_5 rfl (lv_at hl 1 rfl) ?_
  refine lv_iconst (v := 0) hx hb dL_comesSo_6 (by decide) ?_
  refine xmV (rest := []) ⟨hx, hb, hml, hown, hts⟩ (x_plan l G cI cQ d o hE 0 _) (cwV 1 hts gL_comesSo_X4_plan rfl rfl rfl cd_X4_plan ⟨Nat.le_of_ble_eq_true rfl, Nat.le_of_ble_eq_true rfl⟩) hK hP hD hS hA rfl hl.1 rfl (Nat.le_of_ble_eq_true rfl) dL_comesSo_7 ⟨Nat.le_of_ble_eq_true rfl, Nat.le_of_ble_eq_true rfl⟩ (fun o1 H locs ho1 hP hD hS => ?_)
  refine lv_cvt (y := (nI (pS (eC o)))) (by rw [hq_o.2.1]; exact pl0 _ _) ?_
  have hq_o1 : qE o o1 := q_tr hq_o (q_plan hE ho1)
  have hE_o1 := hq_o1.1
  refine lv_istore_n (lv' := [(3, .int (nI (pS (eC o)))), (1, .long (sumF (eC o))), (0, .ref (adE d))]) hx hb dL_comesSo_10 rfl hl (by decide) rfl (fun ls hl => ?_)
  refine lv_aload_n hx hb dL_comesSo_11 rfl (lv_at hl 2 rfl) ?_
  refine lv_iconst (v := 1) hx hb dL_comesSo_12 (by decide) ?_
  refine xmV (rest := []) ⟨hx, hb, hml, hown, hts⟩ (x_plan l G cI cQ d o1 hE_o1 1 _) (cwV 1 hts gL_comesSo_X4_plan rfl rfl rfl cd_X4_plan ⟨Nat.le_of_ble_eq_true rfl, Nat.le_of_ble_eq_true rfl⟩) hK hP hD hS hA rfl hl.1 rfl (Nat.le_of_ble_eq_true rfl) dL_comesSo_13 ⟨Nat.le_of_ble_eq_true rfl, Nat.le_of_ble_eq_true rfl⟩ (fun o2 H locs ho2 hP hD hS => ?_)
  refine lv_cvt (y := (nI mm)) (by rw [hq_o1.2.1]; exact (pl1 _ _).trans (by rw [pd9, Int32.add_comm, Int32.add_sub_cancel])) ?_
  have hq_o2 : qE o o2 := q_tr hq_o1 (q_plan hE_o1 ho2)
  have hE_o2 := hq_o2.1
  refine lv_istore (lv' := [(4, .int (nI mm)), (3, .int (nI (pS (eC o)))), (1, .long (sumF (eC o))), (0, .ref (adE d))]) hx hb dL_comesSo_16 hl (by decide) rfl (fun ls hl => ?_)
  refine lv_aload_n hx hb dL_comesSo_18 rfl (lv_at hl 3 rfl) ?_
  refine lv_iconst (v := 2) hx hb dL_comesSo_19 (by decide) ?_
  refine xmV (rest := []) ⟨hx, hb, hml, hown, hts⟩ (x_plan l G cI cQ d o2 hE_o2 2 _) (cwV 1 hts gL_comesSo_X4_plan rfl rfl rfl cd_X4_plan ⟨Nat.le_of_ble_eq_true rfl, Nat.le_of_ble_eq_true rfl⟩) hK hP hD hS hA rfl hl.1 rfl (Nat.le_of_ble_eq_true rfl) dL_comesSo_20 ⟨Nat.le_of_ble_eq_true rfl, Nat.le_of_ble_eq_true rfl⟩ (fun o3 H locs ho3 hP hD hS => ?_)
  refine lv_cvt (y := (kbu (eC o) - kbu (pD (eC o)))) (by rw [hq_o2.2.1]; exact pl2 _ _) ?_
  have hq_o3 : qE o o3 := q_tr hq_o2 (q_plan hE_o2 ho3)
  have hE_o3 := hq_o3.1
  refine lv_istore (lv' := [(5, .int (kbu (eC o) - kbu (pD (eC o)))), (4, .int (nI mm)), (3, .int (nI (pS (eC o)))), (1, .long (sumF (eC o))), (0, .ref (adE d))]) hx hb dL_comesSo_23 hl (by decide) rfl (fun ls hl => ?_)
  refine lv_aload_n hx hb dL_comesSo_25 rfl (lv_at hl 4 rfl) ?_
  refine lv_iconst (v := 3) hx hb dL_comesSo_26 (by decide) ?_
  refine xmV (rest := []) ⟨hx, hb, hml, hown, hts⟩ (x_plan l G cI cQ d o3 hE_o3 3 _) (cwV 1 hts gL_comesSo_X4_plan rfl rfl rfl cd_X4_plan ⟨Nat.le_of_ble_eq_true rfl, Nat.le_of_ble_eq_true rfl⟩) hK hP hD hS hA rfl hl.1 rfl (Nat.le_of_ble_eq_true rfl) dL_comesSo_27 ⟨Nat.le_of_ble_eq_true rfl, Nat.le_of_ble_eq_true rfl⟩ (fun o4 H locs ho4 hP hD hS => ?_)
  refine lv_cvt (y := (nI (gtN (pD (eC o))))) (by rw [hq_o3.2.1]; exact (pl3 _ _).trans (great_eq pd1.1)) ?_
  have hq_o4 : qE o o4 := q_tr hq_o3 (q_plan hE_o3 ho4)
  have hE_o4 := hq_o4.1
  refine lv_istore (lv' := [(6, .int (nI (gtN (pD (eC o))))), (5, .int (kbu (eC o) - kbu (pD (eC o)))), (4, .int (nI mm)), (3, .int (nI (pS (eC o)))), (1, .long (sumF (eC o))), (0, .ref (adE d))]) hx hb dL_comesSo_30 hl (by decide) rfl (fun ls hl => ?_)
  refine lv_aload_n hx hb dL_comesSo_32 rfl (lv_at hl 5 rfl) ?_
  refine lv_iconst (v := 4) hx hb dL_comesSo_33 (by decide) ?_
  refine xmV (rest := []) ⟨hx, hb, hml, hown, hts⟩ (x_plan l G cI cQ d o4 hE_o4 4 _) (cwV 1 hts gL_comesSo_X4_plan rfl rfl rfl cd_X4_plan ⟨Nat.le_of_ble_eq_true rfl, Nat.le_of_ble_eq_true rfl⟩) hK hP hD hS hA rfl hl.1 rfl (Nat.le_of_ble_eq_true rfl) dL_comesSo_34 ⟨Nat.le_of_ble_eq_true rfl, Nat.le_of_ble_eq_true rfl⟩ (fun o5 H locs ho5 hP hD hS => ?_)
  refine lv_cvt (y := (if pEven (pD (eC o)) then (1 : Int32) else 0)) (by rw [hq_o4.2.1]; exact pl4 _ _) ?_
  have hq_o5 : qE o o5 := q_tr hq_o4 (q_plan hE_o4 ho5)
  have hE_o5 := hq_o5.1
  refine lv_istore (lv' := [(7, .int (if pEven (pD (eC o)) then (1 : Int32) else 0)), (6, .int (nI (gtN (pD (eC o))))), (5, .int (kbu (eC o) - kbu (pD (eC o)))), (4, .int (nI mm)), (3, .int (nI (pS (eC o)))), (1, .long (sumF (eC o))), (0, .ref (adE d))]) hx hb dL_comesSo_37 hl (by decide) rfl (fun ls hl => ?_)
  refine lv_aload_n hx hb dL_comesSo_39 rfl (lv_at hl 6 rfl) ?_
  refine lv_iconst (v := 0) hx hb dL_comesSo_40 (by decide) ?_
  refine xmV (rest := []) ⟨hx, hb, hml, hown, hts⟩ (x_step l G cI cQ d o5 hE_o5 0 _) (cwV 1 hts gL_comesSo_X4_step rfl rfl rfl cd_X4_step ⟨Nat.le_of_ble_eq_true rfl, Nat.le_of_ble_eq_true rfl⟩) hK hP hD hS hA rfl hl.1 rfl (Nat.le_of_ble_eq_true rfl) dL_comesSo_41 ⟨Nat.le_of_ble_eq_true rfl, Nat.le_of_ble_eq_true rfl⟩ (fun o6 H locs ho6 hP hD hS => ?_)
  by_cases h0 : pS (eC o) = 0
  · skip
    have hS0 : pS (eC o) = 0 := by omega
    refine lv_cvt (y := (-9)) (by rw [hq_o5.2.1]; exact st_9 hS0 _ _ (by decide)) ?_
    have hq_o6 : qE o o6 := q_tr hq_o5 (q_step hE_o5 ho6)
    have hE_o6 := hq_o6.1
    refine lv_istore (lv' := [(8, .int (-9)), (7, .int (if pEven (pD (eC o)) then (1 : Int32) else 0)), (6, .int (nI (gtN (pD (eC o))))), (5, .int (kbu (eC o) - kbu (pD (eC o)))), (4, .int (nI mm)), (3, .int (nI (pS (eC o)))), (1, .long (sumF (eC o))), (0, .ref (adE d))]) hx hb dL_comesSo_44 hl (by decide) rfl (fun ls hl => ?_)
    refine lv_aload_n hx hb dL_comesSo_46 rfl (lv_at hl 7 rfl) ?_
    refine lv_iconst (v := 1) hx hb dL_comesSo_47 (by decide) ?_
    refine xmV (rest := []) ⟨hx, hb, hml, hown, hts⟩ (x_step l G cI cQ d o6 hE_o6 1 _) (cwV 1 hts gL_comesSo_X4_step rfl rfl rfl cd_X4_step ⟨Nat.le_of_ble_eq_true rfl, Nat.le_of_ble_eq_true rfl⟩) hK hP hD hS hA rfl hl.1 rfl (Nat.le_of_ble_eq_true rfl) dL_comesSo_48 ⟨Nat.le_of_ble_eq_true rfl, Nat.le_of_ble_eq_true rfl⟩ (fun o7 H locs ho7 hP hD hS => ?_)
    refine lv_cvt (y := (-9)) (by rw [hq_o6.2.1]; exact st_9 hS0 _ _ (by decide)) ?_
    have hq_o7 : qE o o7 := q_tr hq_o6 (q_step hE_o6 ho7)
    have hE_o7 := hq_o7.1
    refine lv_istore (lv' := [(9, .int (-9)), (8, .int (-9)), (7, .int (if pEven (pD (eC o)) then (1 : Int32) else 0)), (6, .int (nI (gtN (pD (eC o))))), (5, .int (kbu (eC o) - kbu (pD (eC o)))), (4, .int (nI mm)), (3, .int (nI (pS (eC o)))), (1, .long (sumF (eC o))), (0, .ref (adE d))]) hx hb dL_comesSo_51 hl (by decide) rfl (fun ls hl => ?_)
    refine lv_aload_n hx hb dL_comesSo_53 rfl (lv_at hl 8 rfl) ?_
    refine lv_iconst (v := 2) hx hb dL_comesSo_54 (by decide) ?_
    refine xmV (rest := []) ⟨hx, hb, hml, hown, hts⟩ (x_step l G cI cQ d o7 hE_o7 2 _) (cwV 1 hts gL_comesSo_X4_step rfl rfl rfl cd_X4_step ⟨Nat.le_of_ble_eq_true rfl, Nat.le_of_ble_eq_true rfl⟩) hK hP hD hS hA rfl hl.1 rfl (Nat.le_of_ble_eq_true rfl) dL_comesSo_55 ⟨Nat.le_of_ble_eq_true rfl, Nat.le_of_ble_eq_true rfl⟩ (fun o8 H locs ho8 hP hD hS => ?_)
    refine lv_cvt (y := (-9)) (by rw [hq_o7.2.1]; exact st_9 hS0 _ _ (by decide)) ?_
    have hq_o8 : qE o o8 := q_tr hq_o7 (q_step hE_o7 ho8)
    have hE_o8 := hq_o8.1
    refine lv_istore (lv' := [(10, .int (-9)), (9, .int (-9)), (8, .int (-9)), (7, .int (if pEven (pD (eC o)) then (1 : Int32) else 0)), (6, .int (nI (gtN (pD (eC o))))), (5, .int (kbu (eC o) - kbu (pD (eC o)))), (4, .int (nI mm)), (3, .int (nI (pS (eC o)))), (1, .long (sumF (eC o))), (0, .ref (adE d))]) hx hb dL_comesSo_58 hl (by decide) rfl (fun ls hl => ?_)
    refine lv_aload_n hx hb dL_comesSo_60 rfl (lv_at hl 9 rfl) ?_
    refine lv_iconst (v := 3) hx hb dL_comesSo_61 (by decide) ?_
    refine xmV (rest := []) ⟨hx, hb, hml, hown, hts⟩ (x_step l G cI cQ d o8 hE_o8 3 _) (cwV 1 hts gL_comesSo_X4_step rfl rfl rfl cd_X4_step ⟨Nat.le_of_ble_eq_true rfl, Nat.le_of_ble_eq_true rfl⟩) hK hP hD hS hA rfl hl.1 rfl (Nat.le_of_ble_eq_true rfl) dL_comesSo_62 ⟨Nat.le_of_ble_eq_true rfl, Nat.le_of_ble_eq_true rfl⟩ (fun o9 H locs ho9 hP hD hS => ?_)
    refine lv_cvt (y := (-9)) (by rw [hq_o8.2.1]; exact st_9 hS0 _ _ (by decide)) ?_
    have hq_o9 : qE o o9 := q_tr hq_o8 (q_step hE_o8 ho9)
    have hE_o9 := hq_o9.1
    refine lv_istore (lv' := [(11, .int (-9)), (10, .int (-9)), (9, .int (-9)), (8, .int (-9)), (7, .int (if pEven (pD (eC o)) then (1 : Int32) else 0)), (6, .int (nI (gtN (pD (eC o))))), (5, .int (kbu (eC o) - kbu (pD (eC o)))), (4, .int (nI mm)), (3, .int (nI (pS (eC o)))), (1, .long (sumF (eC o))), (0, .ref (adE d))]) hx hb dL_comesSo_65 hl (by decide) rfl (fun ls hl => ?_)
    refine lv_aload_n hx hb dL_comesSo_67 rfl (lv_at hl 10 rfl) ?_
    refine xlS (rest := []) ⟨hx, hb, hml, hown, hts⟩ (c_L_sum l G cI cQ d o9 hE_o9) (cwS 1 hts gL_comesSo_L_sum rfl rfl rfl cd_L_sum ⟨Nat.le_of_ble_eq_true rfl, Nat.le_of_ble_eq_true rfl⟩) hK hP rfl hl.1 rfl (Nat.le_of_ble_eq_true rfl) dL_comesSo_68 ⟨Nat.le_of_ble_eq_true rfl, Nat.le_of_ble_eq_true rfl⟩ ?_
    refine lv_lload_n hx hb dL_comesSo_71 rfl (lv_at hl 9 rfl) ?_
    refine W.lcmp hx hb dL_comesSo_72 ?_
    refine lv_cvt (y := 0) (by rw [hq_o9.2.1]; exact lcmp_eq _) ?_
    refine lv_if_ne (tgt := 138) hx hb dL_comesSo_73 (by decide) (fun c => False.elim (c rfl)) (fun _ => ?_)
    refine lv_iload_n hx hb dL_comesSo_76 rfl (lv_at hl 8 rfl) ?_
    refine lv_if_ne (tgt := 84) hx hb dL_comesSo_77 (by decide) (fun c => False.elim (c (congrArg nI hS0))) (fun _ => ?_)
    refine lv_iconst (v := 1) hx hb dL_comesSo_80 (by decide) ?_
    refine lv_goto (tgt := 85) hx hb dL_comesSo_81 (by decide) ?_
    refine lv_iload hx hb dL_comesSo_85 (lv_at hl 3 rfl) ?_
    refine lv_bipush (v := (-9)) hx hb dL_comesSo_87 (by decide) ?_
    refine lv_icmp_ne (tgt := 96) hx hb dL_comesSo_89 (by decide) (fun c => False.elim (c rfl)) (fun _ => ?_)
    refine lv_iconst (v := 1) hx hb dL_comesSo_92 (by decide) ?_
    refine lv_goto (tgt := 97) hx hb dL_comesSo_93 (by decide) ?_
    refine lv_icmp_ne (tgt := 138) hx hb dL_comesSo_97 (by decide) (fun c => absurd c (by decide)) (fun _ => ?_)
    refine lv_aload_n hx hb dL_comesSo_100 rfl (lv_at hl 10 rfl) ?_
    refine lv_bipush (v := 9) hx hb dL_comesSo_101 (by decide) ?_
    refine xpV (rest := []) ⟨hx, hb, hml, hown, hts⟩ (x_count l G cI cQ d o9 hE_o9 9) (cwV 1 hts gL_comesSo_X4_count rfl rfl rfl cd_X4_count ⟨Nat.le_of_ble_eq_true rfl, Nat.le_of_ble_eq_true rfl⟩) hK hP rfl hl.1 rfl (Nat.le_of_ble_eq_true rfl) dL_comesSo_103 ⟨Nat.le_of_ble_eq_true rfl, Nat.le_of_ble_eq_true rfl⟩ ?_
    by_cases ge : gtN (eC o) ≤ tgN (eC o)
    · skip
      refine lv_cvt (y := 1) (by rw [hq_o9.2.1]; exact vc9t w.1 ge) ?_
      refine lv_iconst (v := 1) hx hb dL_comesSo_106 (by decide) ?_
      refine lv_icmp_ne (tgt := 114) hx hb dL_comesSo_107 (by decide) (fun c => absurd c (by decide)) (fun _ => ?_)
      refine lv_iload_n hx hb dL_comesSo_110 rfl (lv_at hl 8 rfl) ?_
      refine lv_if_gt (tgt := 138) hx hb dL_comesSo_111 (by decide) (fun c => False.elim (absurd ((nI_ltI (a := 0) (by decide) (by omega)).mp c) (by omega))) (fun _ => ?_)
      refine lv_iload hx hb dL_comesSo_114 (lv_at hl 7 rfl) ?_
      refine lv_iload_n hx hb dL_comesSo_116 rfl (lv_at hl 8 rfl) ?_
      refine lv_icmp_lt (tgt := 138) hx hb dL_comesSo_117 (by decide) (fun c => False.elim (absurd ((nI_ltI (by omega) (by omega)).mp c) (by omega))) (fun _ => ?_)
      refine lv_iload hx hb dL_comesSo_120 (lv_at hl 7 rfl) ?_
      refine lv_iconst (v := 2) hx hb dL_comesSo_122 (by decide) ?_
      refine lv_iload_n hx hb dL_comesSo_123 rfl (lv_at hl 8 rfl) ?_
      refine lv_imul hx hb dL_comesSo_124 ?_
      refine lv_cvt (y := (nI (2 * pS (eC o)))) (pk_mul 2 _) ?_
      refine lv_icmp_gt (tgt := 138) hx hb dL_comesSo_125 (by decide) (fun c => False.elim (absurd ((nI_ltI (by omega) (by omega)).mp c) (by omega))) (fun _ => ?_)
      refine lv_iload hx hb dL_comesSo_128 (lv_at hl 5 rfl) ?_
      refine lv_aload_n hx hb dL_comesSo_130 rfl (lv_at hl 10 rfl) ?_
      refine lv_iconst (v := 5) hx hb dL_comesSo_131 (by decide) ?_
      refine xpV (rest := [.int (nI (gtN (pD (eC o))))]) ⟨hx, hb, hml, hown, hts⟩ (x_count l G cI cQ d o9 hE_o9 5) (cwV 1 hts gL_comesSo_X4_count rfl rfl rfl cd_X4_count ⟨Nat.le_of_ble_eq_true rfl, Nat.le_of_ble_eq_true rfl⟩) hK hP rfl hl.1 rfl (Nat.le_of_ble_eq_true rfl) dL_comesSo_132 ⟨Nat.le_of_ble_eq_true rfl, Nat.le_of_ble_eq_true rfl⟩ ?_
      refine lv_cvt (y := (nI (gtN (eC o)))) (by rw [hq_o9.2.1]; exact vc5 w.1) ?_
      refine lv_icmp_le (tgt := 140) hx hb dL_comesSo_135 (by decide) (fun _ => ?_) (fun c => False.elim (c ((nI_leI (by have := gt_le pd1.1; omega) (by have := gt_le w.1; omega)).mpr pd5)))
      refine lv_aload_n hx hb dL_comesSo_140 rfl (lv_at hl 10 rfl) ?_
      refine lv_bipush (v := 10) hx hb dL_comesSo_141 (by decide) ?_
      refine xpV (rest := []) ⟨hx, hb, hml, hown, hts⟩ (x_count l G cI cQ d o9 hE_o9 10) (cwV 1 hts gL_comesSo_X4_count rfl rfl rfl cd_X4_count ⟨Nat.le_of_ble_eq_true rfl, Nat.le_of_ble_eq_true rfl⟩) hK hP rfl hl.1 rfl (Nat.le_of_ble_eq_true rfl) dL_comesSo_143 ⟨Nat.le_of_ble_eq_true rfl, Nat.le_of_ble_eq_true rfl⟩ ?_
      refine lv_cvt (y := (kbu (eC o))) (by rw [hq_o9.2.1]; rfl) ?_
      refine lv_istore (lv' := [(12, .int (kbu (eC o))), (11, .int (-9)), (10, .int (-9)), (9, .int (-9)), (8, .int (-9)), (7, .int (if pEven (pD (eC o)) then (1 : Int32) else 0)), (6, .int (nI (gtN (pD (eC o))))), (5, .int (kbu (eC o) - kbu (pD (eC o)))), (4, .int (nI mm)), (3, .int (nI (pS (eC o)))), (1, .long (sumF (eC o))), (0, .ref (adE d))]) hx hb dL_comesSo_146 hl (by decide) rfl (fun ls hl => ?_)
      refine lv_aload_n hx hb dL_comesSo_148 rfl (lv_at hl 11 rfl) ?_
      refine lv_bipush (v := 12) hx hb dL_comesSo_149 (by decide) ?_
      refine xpV (rest := []) ⟨hx, hb, hml, hown, hts⟩ (x_count l G cI cQ d o9 hE_o9 12) (cwV 1 hts gL_comesSo_X4_count rfl rfl rfl cd_X4_count ⟨Nat.le_of_ble_eq_true rfl, Nat.le_of_ble_eq_true rfl⟩) hK hP rfl hl.1 rfl (Nat.le_of_ble_eq_true rfl) dL_comesSo_151 ⟨Nat.le_of_ble_eq_true rfl, Nat.le_of_ble_eq_true rfl⟩ ?_
      refine lv_cvt (y := (kmo (eC o))) (by rw [hq_o9.2.1]; rfl) ?_
      refine lv_istore (lv' := [(13, .int (kmo (eC o))), (12, .int (kbu (eC o))), (11, .int (-9)), (10, .int (-9)), (9, .int (-9)), (8, .int (-9)), (7, .int (if pEven (pD (eC o)) then (1 : Int32) else 0)), (6, .int (nI (gtN (pD (eC o))))), (5, .int (kbu (eC o) - kbu (pD (eC o)))), (4, .int (nI mm)), (3, .int (nI (pS (eC o)))), (1, .long (sumF (eC o))), (0, .ref (adE d))]) hx hb dL_comesSo_154 hl (by decide) rfl (fun ls hl => ?_)
      refine lv_aload_n hx hb dL_comesSo_156 rfl (lv_at hl 12 rfl) ?_
      refine lv_bipush (v := 30) hx hb dL_comesSo_157 (by decide) ?_
      refine xmV (rest := []) ⟨hx, hb, hml, hown, hts⟩ (x_even l G cI cQ d o9 hE_o9 30 _) (cwV 1 hts gL_comesSo_X4_even rfl rfl rfl cd_X4_even ⟨Nat.le_of_ble_eq_true rfl, Nat.le_of_ble_eq_true rfl⟩) hK hP hD hS hA rfl hl.1 rfl (Nat.le_of_ble_eq_true rfl) dL_comesSo_159 ⟨Nat.le_of_ble_eq_true rfl, Nat.le_of_ble_eq_true rfl⟩ (fun o10 H locs ho10 hP hD hS => ?_)
      have hr_o10 : (fWalk (eC o9) (eX o9) 30).1 = (nI (pS (eC o))) := by rw [hq_o9.2.1]; exact (fw30 _ _).1
      have hs_o10 : (fWalk (eC o9) (eX o9) 30).2.1 = pD (eC o) := by rw [hq_o9.2.1]; exact (fw30 _ _).2
      have hE_o10 : EI o10 := ei_even hE_o9 (by rw [hs_o10]; exact pd1) ho10
      have hc_o10 : eC o10 = pD (eC o) := by rw [ho10]; exact hs_o10
      have hh_o10 := hh_even (o := o9) (by rw [hr_o10]; exact nI_pos (by omega)) ho10
      refine lv_cvt (y := (nI (pS (eC o)))) (hr_o10) ?_
      refine lv_iload_n hx hb dL_comesSo_162 rfl (lv_at hl 10 rfl) ?_
      refine lv_icmp_ne (tgt := 249) hx hb dL_comesSo_163 (by decide) (fun c => False.elim (c rfl)) (fun _ => ?_)
      refine lv_aload_n hx hb dL_comesSo_166 rfl (lv_at hl 12 rfl) ?_
      refine lv_bipush (v := 12) hx hb dL_comesSo_167 (by decide) ?_
      refine xpV (rest := []) ⟨hx, hb, hml, hown, hts⟩ (x_count l G cI cQ d o10 hE_o10 12) (cwV 1 hts gL_comesSo_X4_count rfl rfl rfl cd_X4_count ⟨Nat.le_of_ble_eq_true rfl, Nat.le_of_ble_eq_true rfl⟩) hK hP rfl hl.1 rfl (Nat.le_of_ble_eq_true rfl) dL_comesSo_169 ⟨Nat.le_of_ble_eq_true rfl, Nat.le_of_ble_eq_true rfl⟩ ?_
      refine lv_cvt (y := (kmo (eC o) + (nI mm))) (by rw [hc_o10]; exact pd9) ?_
      refine lv_iload hx hb dL_comesSo_172 (lv_at hl 0 rfl) ?_
      refine lv_iload hx hb dL_comesSo_174 (lv_at hl 9 rfl) ?_
      refine lv_iadd hx hb dL_comesSo_176 ?_
      refine lv_icmp_ne (tgt := 249) hx hb dL_comesSo_177 (by decide) (fun c => False.elim (c rfl)) (fun _ => ?_)
      refine lv_aload_n hx hb dL_comesSo_180 rfl (lv_at hl 12 rfl) ?_
      refine lv_bipush (v := 10) hx hb dL_comesSo_181 (by decide) ?_
      refine xpV (rest := []) ⟨hx, hb, hml, hown, hts⟩ (x_count l G cI cQ d o10 hE_o10 10) (cwV 1 hts gL_comesSo_X4_count rfl rfl rfl cd_X4_count ⟨Nat.le_of_ble_eq_true rfl, Nat.le_of_ble_eq_true rfl⟩) hK hP rfl hl.1 rfl (Nat.le_of_ble_eq_true rfl) dL_comesSo_183 ⟨Nat.le_of_ble_eq_true rfl, Nat.le_of_ble_eq_true rfl⟩ ?_
      refine lv_cvt (y := (kbu (eC o) - (kbu (eC o) - kbu (pD (eC o))))) (by rw [hc_o10]; show kbu (pD (eC o)) = _; rw [Int32.sub_eq_add_neg (kbu (eC o)), Int32.neg_sub, Int32.add_comm, Int32.sub_add_cancel]) ?_
      refine lv_iload hx hb dL_comesSo_186 (lv_at hl 1 rfl) ?_
      refine lv_iload hx hb dL_comesSo_188 (lv_at hl 8 rfl) ?_
      refine lv_isub hx hb dL_comesSo_190 ?_
      refine lv_icmp_ne (tgt := 249) hx hb dL_comesSo_191 (by decide) (fun c => False.elim (c rfl)) (fun _ => ?_)
      refine lv_aload_n hx hb dL_comesSo_194 rfl (lv_at hl 12 rfl) ?_
      refine lv_iconst (v := 5) hx hb dL_comesSo_195 (by decide) ?_
      refine xpV (rest := []) ⟨hx, hb, hml, hown, hts⟩ (x_count l G cI cQ d o10 hE_o10 5) (cwV 1 hts gL_comesSo_X4_count rfl rfl rfl cd_X4_count ⟨Nat.le_of_ble_eq_true rfl, Nat.le_of_ble_eq_true rfl⟩) hK hP rfl hl.1 rfl (Nat.le_of_ble_eq_true rfl) dL_comesSo_196 ⟨Nat.le_of_ble_eq_true rfl, Nat.le_of_ble_eq_true rfl⟩ ?_
      refine lv_cvt (y := (nI (gtN (pD (eC o))))) (by rw [hc_o10]; exact vc5 pd1.1) ?_
      refine lv_iload hx hb dL_comesSo_199 (lv_at hl 7 rfl) ?_
      refine lv_icmp_ne (tgt := 249) hx hb dL_comesSo_201 (by decide) (fun c => False.elim (c rfl)) (fun _ => ?_)
      refine lv_aload_n hx hb dL_comesSo_204 rfl (lv_at hl 12 rfl) ?_
      refine lv_bipush (v := 9) hx hb dL_comesSo_205 (by decide) ?_
      refine xpV (rest := []) ⟨hx, hb, hml, hown, hts⟩ (x_count l G cI cQ d o10 hE_o10 9) (cwV 1 hts gL_comesSo_X4_count rfl rfl rfl cd_X4_count ⟨Nat.le_of_ble_eq_true rfl, Nat.le_of_ble_eq_true rfl⟩) hK hP rfl hl.1 rfl (Nat.le_of_ble_eq_true rfl) dL_comesSo_207 ⟨Nat.le_of_ble_eq_true rfl, Nat.le_of_ble_eq_true rfl⟩ ?_
      refine lv_cvt (y := (if pEven (pD (eC o)) then (1 : Int32) else 0)) (by rw [hc_o10]; exact vc9 _ _ _) ?_
      refine lv_iload hx hb dL_comesSo_210 (lv_at hl 6 rfl) ?_
      refine lv_icmp_ne (tgt := 249) hx hb dL_comesSo_212 (by decide) (fun c => False.elim (c rfl)) (fun _ => ?_)
      refine lv_iload_n hx hb dL_comesSo_215 rfl (lv_at hl 10 rfl) ?_
      refine lv_bipush (v := 30) hx hb dL_comesSo_216 (by decide) ?_
      refine lv_icmp_eq (tgt := 229) hx hb dL_comesSo_218 (by decide) (fun c => False.elim (absurd ((nI_eq (b := 30) (by omega) (by decide)).mp c) (by omega))) (fun _ => ?_)
      refine lv_aload_n hx hb dL_comesSo_221 rfl (lv_at hl 12 rfl) ?_
      refine lv_iconst (v := 0) hx hb dL_comesSo_222 (by decide) ?_
      refine xmV (rest := []) ⟨hx, hb, hml, hown, hts⟩ (x_plan l G cI cQ d o10 hE_o10 0 _) (cwV 1 hts gL_comesSo_X4_plan rfl rfl rfl cd_X4_plan ⟨Nat.le_of_ble_eq_true rfl, Nat.le_of_ble_eq_true rfl⟩) hK hP hD hS hA rfl hl.1 rfl (Nat.le_of_ble_eq_true rfl) dL_comesSo_223 ⟨Nat.le_of_ble_eq_true rfl, Nat.le_of_ble_eq_true rfl⟩ (fun o11 H locs ho11 hP hD hS => ?_)
      refine lv_cvt (y := 0) (by rw [hc_o10]; exact (pl0 _ _).trans (congrArg nI (ps_D w (by omega)))) ?_
      have hq9_o11 := q_plan hE_o10 ho11
      have hE_o11 := hq9_o11.1
      have hh_o11 := hh_q hh_o10 hq9_o11 (by rw [ho11]; rfl)
      refine lv_if_ne (tgt := 249) hx hb dL_comesSo_226 (by decide) (fun c => False.elim (c rfl)) (fun _ => ?_)
      refine lv_aload_n hx hb dL_comesSo_229 rfl (lv_at hl 12 rfl) ?_
      refine xmV (rest := []) ⟨hx, hb, hml, hown, hts⟩ (x_undo l G cI cQ d o11 hE_o11  _) (cwV 0 hts gL_comesSo_X4_undo rfl rfl rfl cd_X4_undo ⟨Nat.le_of_ble_eq_true rfl, Nat.le_of_ble_eq_true rfl⟩) hK hP hD hS hA rfl hl.1 rfl (Nat.le_of_ble_eq_true rfl) dL_comesSo_230 ⟨Nat.le_of_ble_eq_true rfl, Nat.le_of_ble_eq_true rfl⟩ (fun o12 H locs ho12 hP hD hS => ?_)
      have hu_o12 := ei_undo hE_o9 hh_o11.1 hh_o11.2 ho12
      have hE_o12 := hu_o12.2.1
      have hc_o12 : eC o12 = eC o := hu_o12.2.2.trans hq_o9.2.1
      refine lv_if_lt (tgt := 249) hx hb dL_comesSo_233 (by decide) (fun c => False.elim (hu_o12.1 c)) (fun _ => ?_)
      refine lv_aload_n hx hb dL_comesSo_236 rfl (lv_at hl 12 rfl) ?_
      refine xlS (rest := []) ⟨hx, hb, hml, hown, hts⟩ (c_L_sum l G cI cQ d o12 hE_o12) (cwS 1 hts gL_comesSo_L_sum rfl rfl rfl cd_L_sum ⟨Nat.le_of_ble_eq_true rfl, Nat.le_of_ble_eq_true rfl⟩) hK hP rfl hl.1 rfl (Nat.le_of_ble_eq_true rfl) dL_comesSo_237 ⟨Nat.le_of_ble_eq_true rfl, Nat.le_of_ble_eq_true rfl⟩ ?_
      refine lv_lload_n hx hb dL_comesSo_240 rfl (lv_at hl 11 rfl) ?_
      refine W.lcmp hx hb dL_comesSo_241 ?_
      refine lv_cvt (y := 0) (by rw [hc_o12]; exact lcmp_eq _) ?_
      refine lv_if_ne (tgt := 249) hx hb dL_comesSo_242 (by decide) (fun c => False.elim (c rfl)) (fun _ => ?_)
      refine lv_iconst (v := 1) hx hb dL_comesSo_245 (by decide) ?_
      refine lv_goto (tgt := 250) hx hb dL_comesSo_246 (by decide) ?_
      refine lv_istore (lv' := [(14, .int 1), (13, .int (kmo (eC o))), (12, .int (kbu (eC o))), (11, .int (-9)), (10, .int (-9)), (9, .int (-9)), (8, .int (-9)), (7, .int (if pEven (pD (eC o)) then (1 : Int32) else 0)), (6, .int (nI (gtN (pD (eC o))))), (5, .int (kbu (eC o) - kbu (pD (eC o)))), (4, .int (nI mm)), (3, .int (nI (pS (eC o)))), (1, .long (sumF (eC o))), (0, .ref (adE d))]) hx hb dL_comesSo_250 hl (by decide) rfl (fun ls hl => ?_)
      refine lv_iload hx hb dL_comesSo_252 (lv_at hl 0 rfl) ?_
      refine lv_if_eq (tgt := 473) hx hb dL_comesSo_254 (by decide) (fun c => absurd c (by decide)) (fun _ => ?_)
      refine lv_iload_n hx hb dL_comesSo_257 rfl (lv_at hl 11 rfl) ?_
      refine lv_if_le (tgt := 473) hx hb dL_comesSo_258 (by decide) (fun _ => ?_) (fun c => False.elim (c (by rw [hS0]; decide)))
      refine lv_iload hx hb dL_comesSo_473 (lv_at hl 0 rfl) ?_
      exact m_ret (ty := .boolean) o12 hx hb hr hlocks rfl ⟨rfl, ⟨hE_o12, hc_o12⟩⟩ hP hD hS dL_comesSo_475
    · skip
      refine lv_cvt (y := 0) (by rw [hq_o9.2.1]; exact vc9f w.1 ge) ?_
      refine lv_iconst (v := 1) hx hb dL_comesSo_106 (by decide) ?_
      refine lv_icmp_ne (tgt := 114) hx hb dL_comesSo_107 (by decide) (fun _ => ?_) (fun c => absurd c (by decide))
      refine lv_iload hx hb dL_comesSo_114 (lv_at hl 7 rfl) ?_
      refine lv_iload_n hx hb dL_comesSo_116 rfl (lv_at hl 8 rfl) ?_
      refine lv_icmp_lt (tgt := 138) hx hb dL_comesSo_117 (by decide) (fun c => False.elim (absurd ((nI_ltI (by omega) (by omega)).mp c) (by omega))) (fun _ => ?_)
      refine lv_iload hx hb dL_comesSo_120 (lv_at hl 7 rfl) ?_
      refine lv_iconst (v := 2) hx hb dL_comesSo_122 (by decide) ?_
      refine lv_iload_n hx hb dL_comesSo_123 rfl (lv_at hl 8 rfl) ?_
      refine lv_imul hx hb dL_comesSo_124 ?_
      refine lv_cvt (y := (nI (2 * pS (eC o)))) (pk_mul 2 _) ?_
      refine lv_icmp_gt (tgt := 138) hx hb dL_comesSo_125 (by decide) (fun c => False.elim (absurd ((nI_ltI (by omega) (by omega)).mp c) (by omega))) (fun _ => ?_)
      refine lv_iload hx hb dL_comesSo_128 (lv_at hl 5 rfl) ?_
      refine lv_aload_n hx hb dL_comesSo_130 rfl (lv_at hl 10 rfl) ?_
      refine lv_iconst (v := 5) hx hb dL_comesSo_131 (by decide) ?_
      refine xpV (rest := [.int (nI (gtN (pD (eC o))))]) ⟨hx, hb, hml, hown, hts⟩ (x_count l G cI cQ d o9 hE_o9 5) (cwV 1 hts gL_comesSo_X4_count rfl rfl rfl cd_X4_count ⟨Nat.le_of_ble_eq_true rfl, Nat.le_of_ble_eq_true rfl⟩) hK hP rfl hl.1 rfl (Nat.le_of_ble_eq_true rfl) dL_comesSo_132 ⟨Nat.le_of_ble_eq_true rfl, Nat.le_of_ble_eq_true rfl⟩ ?_
      refine lv_cvt (y := (nI (gtN (eC o)))) (by rw [hq_o9.2.1]; exact vc5 w.1) ?_
      refine lv_icmp_le (tgt := 140) hx hb dL_comesSo_135 (by decide) (fun _ => ?_) (fun c => False.elim (c ((nI_leI (by have := gt_le pd1.1; omega) (by have := gt_le w.1; omega)).mpr pd5)))
      refine lv_aload_n hx hb dL_comesSo_140 rfl (lv_at hl 10 rfl) ?_
      refine lv_bipush (v := 10) hx hb dL_comesSo_141 (by decide) ?_
      refine xpV (rest := []) ⟨hx, hb, hml, hown, hts⟩ (x_count l G cI cQ d o9 hE_o9 10) (cwV 1 hts gL_comesSo_X4_count rfl rfl rfl cd_X4_count ⟨Nat.le_of_ble_eq_true rfl, Nat.le_of_ble_eq_true rfl⟩) hK hP rfl hl.1 rfl (Nat.le_of_ble_eq_true rfl) dL_comesSo_143 ⟨Nat.le_of_ble_eq_true rfl, Nat.le_of_ble_eq_true rfl⟩ ?_
      refine lv_cvt (y := (kbu (eC o))) (by rw [hq_o9.2.1]; rfl) ?_
      refine lv_istore (lv' := [(12, .int (kbu (eC o))), (11, .int (-9)), (10, .int (-9)), (9, .int (-9)), (8, .int (-9)), (7, .int (if pEven (pD (eC o)) then (1 : Int32) else 0)), (6, .int (nI (gtN (pD (eC o))))), (5, .int (kbu (eC o) - kbu (pD (eC o)))), (4, .int (nI mm)), (3, .int (nI (pS (eC o)))), (1, .long (sumF (eC o))), (0, .ref (adE d))]) hx hb dL_comesSo_146 hl (by decide) rfl (fun ls hl => ?_)
      refine lv_aload_n hx hb dL_comesSo_148 rfl (lv_at hl 11 rfl) ?_
      refine lv_bipush (v := 12) hx hb dL_comesSo_149 (by decide) ?_
      refine xpV (rest := []) ⟨hx, hb, hml, hown, hts⟩ (x_count l G cI cQ d o9 hE_o9 12) (cwV 1 hts gL_comesSo_X4_count rfl rfl rfl cd_X4_count ⟨Nat.le_of_ble_eq_true rfl, Nat.le_of_ble_eq_true rfl⟩) hK hP rfl hl.1 rfl (Nat.le_of_ble_eq_true rfl) dL_comesSo_151 ⟨Nat.le_of_ble_eq_true rfl, Nat.le_of_ble_eq_true rfl⟩ ?_
      refine lv_cvt (y := (kmo (eC o))) (by rw [hq_o9.2.1]; rfl) ?_
      refine lv_istore (lv' := [(13, .int (kmo (eC o))), (12, .int (kbu (eC o))), (11, .int (-9)), (10, .int (-9)), (9, .int (-9)), (8, .int (-9)), (7, .int (if pEven (pD (eC o)) then (1 : Int32) else 0)), (6, .int (nI (gtN (pD (eC o))))), (5, .int (kbu (eC o) - kbu (pD (eC o)))), (4, .int (nI mm)), (3, .int (nI (pS (eC o)))), (1, .long (sumF (eC o))), (0, .ref (adE d))]) hx hb dL_comesSo_154 hl (by decide) rfl (fun ls hl => ?_)
      refine lv_aload_n hx hb dL_comesSo_156 rfl (lv_at hl 12 rfl) ?_
      refine lv_bipush (v := 30) hx hb dL_comesSo_157 (by decide) ?_
      refine xmV (rest := []) ⟨hx, hb, hml, hown, hts⟩ (x_even l G cI cQ d o9 hE_o9 30 _) (cwV 1 hts gL_comesSo_X4_even rfl rfl rfl cd_X4_even ⟨Nat.le_of_ble_eq_true rfl, Nat.le_of_ble_eq_true rfl⟩) hK hP hD hS hA rfl hl.1 rfl (Nat.le_of_ble_eq_true rfl) dL_comesSo_159 ⟨Nat.le_of_ble_eq_true rfl, Nat.le_of_ble_eq_true rfl⟩ (fun o13 H locs ho13 hP hD hS => ?_)
      have hr_o13 : (fWalk (eC o9) (eX o9) 30).1 = (nI (pS (eC o))) := by rw [hq_o9.2.1]; exact (fw30 _ _).1
      have hs_o13 : (fWalk (eC o9) (eX o9) 30).2.1 = pD (eC o) := by rw [hq_o9.2.1]; exact (fw30 _ _).2
      have hE_o13 : EI o13 := ei_even hE_o9 (by rw [hs_o13]; exact pd1) ho13
      have hc_o13 : eC o13 = pD (eC o) := by rw [ho13]; exact hs_o13
      have hh_o13 := hh_even (o := o9) (by rw [hr_o13]; exact nI_pos (by omega)) ho13
      refine lv_cvt (y := (nI (pS (eC o)))) (hr_o13) ?_
      refine lv_iload_n hx hb dL_comesSo_162 rfl (lv_at hl 10 rfl) ?_
      refine lv_icmp_ne (tgt := 249) hx hb dL_comesSo_163 (by decide) (fun c => False.elim (c rfl)) (fun _ => ?_)
      refine lv_aload_n hx hb dL_comesSo_166 rfl (lv_at hl 12 rfl) ?_
      refine lv_bipush (v := 12) hx hb dL_comesSo_167 (by decide) ?_
      refine xpV (rest := []) ⟨hx, hb, hml, hown, hts⟩ (x_count l G cI cQ d o13 hE_o13 12) (cwV 1 hts gL_comesSo_X4_count rfl rfl rfl cd_X4_count ⟨Nat.le_of_ble_eq_true rfl, Nat.le_of_ble_eq_true rfl⟩) hK hP rfl hl.1 rfl (Nat.le_of_ble_eq_true rfl) dL_comesSo_169 ⟨Nat.le_of_ble_eq_true rfl, Nat.le_of_ble_eq_true rfl⟩ ?_
      refine lv_cvt (y := (kmo (eC o) + (nI mm))) (by rw [hc_o13]; exact pd9) ?_
      refine lv_iload hx hb dL_comesSo_172 (lv_at hl 0 rfl) ?_
      refine lv_iload hx hb dL_comesSo_174 (lv_at hl 9 rfl) ?_
      refine lv_iadd hx hb dL_comesSo_176 ?_
      refine lv_icmp_ne (tgt := 249) hx hb dL_comesSo_177 (by decide) (fun c => False.elim (c rfl)) (fun _ => ?_)
      refine lv_aload_n hx hb dL_comesSo_180 rfl (lv_at hl 12 rfl) ?_
      refine lv_bipush (v := 10) hx hb dL_comesSo_181 (by decide) ?_
      refine xpV (rest := []) ⟨hx, hb, hml, hown, hts⟩ (x_count l G cI cQ d o13 hE_o13 10) (cwV 1 hts gL_comesSo_X4_count rfl rfl rfl cd_X4_count ⟨Nat.le_of_ble_eq_true rfl, Nat.le_of_ble_eq_true rfl⟩) hK hP rfl hl.1 rfl (Nat.le_of_ble_eq_true rfl) dL_comesSo_183 ⟨Nat.le_of_ble_eq_true rfl, Nat.le_of_ble_eq_true rfl⟩ ?_
      refine lv_cvt (y := (kbu (eC o) - (kbu (eC o) - kbu (pD (eC o))))) (by rw [hc_o13]; show kbu (pD (eC o)) = _; rw [Int32.sub_eq_add_neg (kbu (eC o)), Int32.neg_sub, Int32.add_comm, Int32.sub_add_cancel]) ?_
      refine lv_iload hx hb dL_comesSo_186 (lv_at hl 1 rfl) ?_
      refine lv_iload hx hb dL_comesSo_188 (lv_at hl 8 rfl) ?_
      refine lv_isub hx hb dL_comesSo_190 ?_
      refine lv_icmp_ne (tgt := 249) hx hb dL_comesSo_191 (by decide) (fun c => False.elim (c rfl)) (fun _ => ?_)
      refine lv_aload_n hx hb dL_comesSo_194 rfl (lv_at hl 12 rfl) ?_
      refine lv_iconst (v := 5) hx hb dL_comesSo_195 (by decide) ?_
      refine xpV (rest := []) ⟨hx, hb, hml, hown, hts⟩ (x_count l G cI cQ d o13 hE_o13 5) (cwV 1 hts gL_comesSo_X4_count rfl rfl rfl cd_X4_count ⟨Nat.le_of_ble_eq_true rfl, Nat.le_of_ble_eq_true rfl⟩) hK hP rfl hl.1 rfl (Nat.le_of_ble_eq_true rfl) dL_comesSo_196 ⟨Nat.le_of_ble_eq_true rfl, Nat.le_of_ble_eq_true rfl⟩ ?_
      refine lv_cvt (y := (nI (gtN (pD (eC o))))) (by rw [hc_o13]; exact vc5 pd1.1) ?_
      refine lv_iload hx hb dL_comesSo_199 (lv_at hl 7 rfl) ?_
      refine lv_icmp_ne (tgt := 249) hx hb dL_comesSo_201 (by decide) (fun c => False.elim (c rfl)) (fun _ => ?_)
      refine lv_aload_n hx hb dL_comesSo_204 rfl (lv_at hl 12 rfl) ?_
      refine lv_bipush (v := 9) hx hb dL_comesSo_205 (by decide) ?_
      refine xpV (rest := []) ⟨hx, hb, hml, hown, hts⟩ (x_count l G cI cQ d o13 hE_o13 9) (cwV 1 hts gL_comesSo_X4_count rfl rfl rfl cd_X4_count ⟨Nat.le_of_ble_eq_true rfl, Nat.le_of_ble_eq_true rfl⟩) hK hP rfl hl.1 rfl (Nat.le_of_ble_eq_true rfl) dL_comesSo_207 ⟨Nat.le_of_ble_eq_true rfl, Nat.le_of_ble_eq_true rfl⟩ ?_
      refine lv_cvt (y := (if pEven (pD (eC o)) then (1 : Int32) else 0)) (by rw [hc_o13]; exact vc9 _ _ _) ?_
      refine lv_iload hx hb dL_comesSo_210 (lv_at hl 6 rfl) ?_
      refine lv_icmp_ne (tgt := 249) hx hb dL_comesSo_212 (by decide) (fun c => False.elim (c rfl)) (fun _ => ?_)
      refine lv_iload_n hx hb dL_comesSo_215 rfl (lv_at hl 10 rfl) ?_
      refine lv_bipush (v := 30) hx hb dL_comesSo_216 (by decide) ?_
      refine lv_icmp_eq (tgt := 229) hx hb dL_comesSo_218 (by decide) (fun c => False.elim (absurd ((nI_eq (b := 30) (by omega) (by decide)).mp c) (by omega))) (fun _ => ?_)
      refine lv_aload_n hx hb dL_comesSo_221 rfl (lv_at hl 12 rfl) ?_
      refine lv_iconst (v := 0) hx hb dL_comesSo_222 (by decide) ?_
      refine xmV (rest := []) ⟨hx, hb, hml, hown, hts⟩ (x_plan l G cI cQ d o13 hE_o13 0 _) (cwV 1 hts gL_comesSo_X4_plan rfl rfl rfl cd_X4_plan ⟨Nat.le_of_ble_eq_true rfl, Nat.le_of_ble_eq_true rfl⟩) hK hP hD hS hA rfl hl.1 rfl (Nat.le_of_ble_eq_true rfl) dL_comesSo_223 ⟨Nat.le_of_ble_eq_true rfl, Nat.le_of_ble_eq_true rfl⟩ (fun o14 H locs ho14 hP hD hS => ?_)
      refine lv_cvt (y := 0) (by rw [hc_o13]; exact (pl0 _ _).trans (congrArg nI (ps_D w (by omega)))) ?_
      have hq9_o14 := q_plan hE_o13 ho14
      have hE_o14 := hq9_o14.1
      have hh_o14 := hh_q hh_o13 hq9_o14 (by rw [ho14]; rfl)
      refine lv_if_ne (tgt := 249) hx hb dL_comesSo_226 (by decide) (fun c => False.elim (c rfl)) (fun _ => ?_)
      refine lv_aload_n hx hb dL_comesSo_229 rfl (lv_at hl 12 rfl) ?_
      refine xmV (rest := []) ⟨hx, hb, hml, hown, hts⟩ (x_undo l G cI cQ d o14 hE_o14  _) (cwV 0 hts gL_comesSo_X4_undo rfl rfl rfl cd_X4_undo ⟨Nat.le_of_ble_eq_true rfl, Nat.le_of_ble_eq_true rfl⟩) hK hP hD hS hA rfl hl.1 rfl (Nat.le_of_ble_eq_true rfl) dL_comesSo_230 ⟨Nat.le_of_ble_eq_true rfl, Nat.le_of_ble_eq_true rfl⟩ (fun o15 H locs ho15 hP hD hS => ?_)
      have hu_o15 := ei_undo hE_o9 hh_o14.1 hh_o14.2 ho15
      have hE_o15 := hu_o15.2.1
      have hc_o15 : eC o15 = eC o := hu_o15.2.2.trans hq_o9.2.1
      refine lv_if_lt (tgt := 249) hx hb dL_comesSo_233 (by decide) (fun c => False.elim (hu_o15.1 c)) (fun _ => ?_)
      refine lv_aload_n hx hb dL_comesSo_236 rfl (lv_at hl 12 rfl) ?_
      refine xlS (rest := []) ⟨hx, hb, hml, hown, hts⟩ (c_L_sum l G cI cQ d o15 hE_o15) (cwS 1 hts gL_comesSo_L_sum rfl rfl rfl cd_L_sum ⟨Nat.le_of_ble_eq_true rfl, Nat.le_of_ble_eq_true rfl⟩) hK hP rfl hl.1 rfl (Nat.le_of_ble_eq_true rfl) dL_comesSo_237 ⟨Nat.le_of_ble_eq_true rfl, Nat.le_of_ble_eq_true rfl⟩ ?_
      refine lv_lload_n hx hb dL_comesSo_240 rfl (lv_at hl 11 rfl) ?_
      refine W.lcmp hx hb dL_comesSo_241 ?_
      refine lv_cvt (y := 0) (by rw [hc_o15]; exact lcmp_eq _) ?_
      refine lv_if_ne (tgt := 249) hx hb dL_comesSo_242 (by decide) (fun c => False.elim (c rfl)) (fun _ => ?_)
      refine lv_iconst (v := 1) hx hb dL_comesSo_245 (by decide) ?_
      refine lv_goto (tgt := 250) hx hb dL_comesSo_246 (by decide) ?_
      refine lv_istore (lv' := [(14, .int 1), (13, .int (kmo (eC o))), (12, .int (kbu (eC o))), (11, .int (-9)), (10, .int (-9)), (9, .int (-9)), (8, .int (-9)), (7, .int (if pEven (pD (eC o)) then (1 : Int32) else 0)), (6, .int (nI (gtN (pD (eC o))))), (5, .int (kbu (eC o) - kbu (pD (eC o)))), (4, .int (nI mm)), (3, .int (nI (pS (eC o)))), (1, .long (sumF (eC o))), (0, .ref (adE d))]) hx hb dL_comesSo_250 hl (by decide) rfl (fun ls hl => ?_)
      refine lv_iload hx hb dL_comesSo_252 (lv_at hl 0 rfl) ?_
      refine lv_if_eq (tgt := 473) hx hb dL_comesSo_254 (by decide) (fun c => absurd c (by decide)) (fun _ => ?_)
      refine lv_iload_n hx hb dL_comesSo_257 rfl (lv_at hl 11 rfl) ?_
      refine lv_if_le (tgt := 473) hx hb dL_comesSo_258 (by decide) (fun _ => ?_) (fun c => False.elim (c (by rw [hS0]; decide)))
      refine lv_iload hx hb dL_comesSo_473 (lv_at hl 0 rfl) ?_
      exact m_ret (ty := .boolean) o15 hx hb hr hlocks rfl ⟨rfl, ⟨hE_o15, hc_o15⟩⟩ hP hD hS dL_comesSo_475
  · skip
    obtain ⟨f, j, g, Y, AA, s1, s2, s3, s4, s5, s6, s7, s8, s9, s10, s11, s12, s13, s14, s15, s16, s17, s18⟩ := st_sp w (Nat.pos_of_ne_zero h0)
    refine lv_cvt (y := (nI j)) (by rw [hq_o5.2.1]; exact (s1 _).1) ?_
    have hq_o6 : qE o o6 := q_tr hq_o5 (q_step hE_o5 ho6)
    have hE_o6 := hq_o6.1
    refine lv_istore (lv' := [(8, .int (nI j)), (7, .int (if pEven (pD (eC o)) then (1 : Int32) else 0)), (6, .int (nI (gtN (pD (eC o))))), (5, .int (kbu (eC o) - kbu (pD (eC o)))), (4, .int (nI mm)), (3, .int (nI (pS (eC o)))), (1, .long (sumF (eC o))), (0, .ref (adE d))]) hx hb dL_comesSo_44 hl (by decide) rfl (fun ls hl => ?_)
    refine lv_aload_n hx hb dL_comesSo_46 rfl (lv_at hl 7 rfl) ?_
    refine lv_iconst (v := 1) hx hb dL_comesSo_47 (by decide) ?_
    refine xmV (rest := []) ⟨hx, hb, hml, hown, hts⟩ (x_step l G cI cQ d o6 hE_o6 1 _) (cwV 1 hts gL_comesSo_X4_step rfl rfl rfl cd_X4_step ⟨Nat.le_of_ble_eq_true rfl, Nat.le_of_ble_eq_true rfl⟩) hK hP hD hS hA rfl hl.1 rfl (Nat.le_of_ble_eq_true rfl) dL_comesSo_48 ⟨Nat.le_of_ble_eq_true rfl, Nat.le_of_ble_eq_true rfl⟩ (fun o16 H locs ho16 hP hD hS => ?_)
    refine lv_cvt (y := (nI g)) (by rw [hq_o6.2.1]; exact (s1 _).2.1) ?_
    have hq_o16 : qE o o16 := q_tr hq_o6 (q_step hE_o6 ho16)
    have hE_o16 := hq_o16.1
    refine lv_istore (lv' := [(9, .int (nI g)), (8, .int (nI j)), (7, .int (if pEven (pD (eC o)) then (1 : Int32) else 0)), (6, .int (nI (gtN (pD (eC o))))), (5, .int (kbu (eC o) - kbu (pD (eC o)))), (4, .int (nI mm)), (3, .int (nI (pS (eC o)))), (1, .long (sumF (eC o))), (0, .ref (adE d))]) hx hb dL_comesSo_51 hl (by decide) rfl (fun ls hl => ?_)
    refine lv_aload_n hx hb dL_comesSo_53 rfl (lv_at hl 8 rfl) ?_
    refine lv_iconst (v := 2) hx hb dL_comesSo_54 (by decide) ?_
    refine xmV (rest := []) ⟨hx, hb, hml, hown, hts⟩ (x_step l G cI cQ d o16 hE_o16 2 _) (cwV 1 hts gL_comesSo_X4_step rfl rfl rfl cd_X4_step ⟨Nat.le_of_ble_eq_true rfl, Nat.le_of_ble_eq_true rfl⟩) hK hP hD hS hA rfl hl.1 rfl (Nat.le_of_ble_eq_true rfl) dL_comesSo_55 ⟨Nat.le_of_ble_eq_true rfl, Nat.le_of_ble_eq_true rfl⟩ (fun o17 H locs ho17 hP hD hS => ?_)
    refine lv_cvt (y := (kSother Y)) (by rw [hq_o16.2.1]; exact (s1 _).2.2.1) ?_
    have hq_o17 : qE o o17 := q_tr hq_o16 (q_step hE_o16 ho17)
    have hE_o17 := hq_o17.1
    refine lv_istore (lv' := [(10, .int (kSother Y)), (9, .int (nI g)), (8, .int (nI j)), (7, .int (if pEven (pD (eC o)) then (1 : Int32) else 0)), (6, .int (nI (gtN (pD (eC o))))), (5, .int (kbu (eC o) - kbu (pD (eC o)))), (4, .int (nI mm)), (3, .int (nI (pS (eC o)))), (1, .long (sumF (eC o))), (0, .ref (adE d))]) hx hb dL_comesSo_58 hl (by decide) rfl (fun ls hl => ?_)
    refine lv_aload_n hx hb dL_comesSo_60 rfl (lv_at hl 9 rfl) ?_
    refine lv_iconst (v := 3) hx hb dL_comesSo_61 (by decide) ?_
    refine xmV (rest := []) ⟨hx, hb, hml, hown, hts⟩ (x_step l G cI cQ d o17 hE_o17 3 _) (cwV 1 hts gL_comesSo_X4_step rfl rfl rfl cd_X4_step ⟨Nat.le_of_ble_eq_true rfl, Nat.le_of_ble_eq_true rfl⟩) hK hP hD hS hA rfl hl.1 rfl (Nat.le_of_ble_eq_true rfl) dL_comesSo_62 ⟨Nat.le_of_ble_eq_true rfl, Nat.le_of_ble_eq_true rfl⟩ (fun o18 H locs ho18 hP hD hS => ?_)
    refine lv_cvt (y := (kSprice Y)) (by rw [hq_o17.2.1]; exact (s1 _).2.2.2) ?_
    have hq_o18 : qE o o18 := q_tr hq_o17 (q_step hE_o17 ho18)
    have hE_o18 := hq_o18.1
    refine lv_istore (lv' := [(11, .int (kSprice Y)), (10, .int (kSother Y)), (9, .int (nI g)), (8, .int (nI j)), (7, .int (if pEven (pD (eC o)) then (1 : Int32) else 0)), (6, .int (nI (gtN (pD (eC o))))), (5, .int (kbu (eC o) - kbu (pD (eC o)))), (4, .int (nI mm)), (3, .int (nI (pS (eC o)))), (1, .long (sumF (eC o))), (0, .ref (adE d))]) hx hb dL_comesSo_65 hl (by decide) rfl (fun ls hl => ?_)
    refine lv_aload_n hx hb dL_comesSo_67 rfl (lv_at hl 10 rfl) ?_
    refine xlS (rest := []) ⟨hx, hb, hml, hown, hts⟩ (c_L_sum l G cI cQ d o18 hE_o18) (cwS 1 hts gL_comesSo_L_sum rfl rfl rfl cd_L_sum ⟨Nat.le_of_ble_eq_true rfl, Nat.le_of_ble_eq_true rfl⟩) hK hP rfl hl.1 rfl (Nat.le_of_ble_eq_true rfl) dL_comesSo_68 ⟨Nat.le_of_ble_eq_true rfl, Nat.le_of_ble_eq_true rfl⟩ ?_
    refine lv_lload_n hx hb dL_comesSo_71 rfl (lv_at hl 9 rfl) ?_
    refine W.lcmp hx hb dL_comesSo_72 ?_
    refine lv_cvt (y := 0) (by rw [hq_o18.2.1]; exact lcmp_eq _) ?_
    refine lv_if_ne (tgt := 138) hx hb dL_comesSo_73 (by decide) (fun c => False.elim (c rfl)) (fun _ => ?_)
    refine lv_iload_n hx hb dL_comesSo_76 rfl (lv_at hl 8 rfl) ?_
    refine lv_if_ne (tgt := 84) hx hb dL_comesSo_77 (by decide) (fun _ => ?_) (fun c => False.elim (h0 ((nI_eq (b := 0) (by omega) (by decide)).mp c)))
    refine lv_iconst (v := 0) hx hb dL_comesSo_84 (by decide) ?_
    refine lv_iload hx hb dL_comesSo_85 (lv_at hl 3 rfl) ?_
    refine lv_bipush (v := (-9)) hx hb dL_comesSo_87 (by decide) ?_
    refine lv_icmp_ne (tgt := 96) hx hb dL_comesSo_89 (by decide) (fun _ => ?_) (fun c => False.elim (ne9 (by omega) c))
    refine lv_iconst (v := 0) hx hb dL_comesSo_96 (by decide) ?_
    refine lv_icmp_ne (tgt := 138) hx hb dL_comesSo_97 (by decide) (fun c => absurd c (by decide)) (fun _ => ?_)
    refine lv_aload_n hx hb dL_comesSo_100 rfl (lv_at hl 10 rfl) ?_
    refine lv_bipush (v := 9) hx hb dL_comesSo_101 (by decide) ?_
    refine xpV (rest := []) ⟨hx, hb, hml, hown, hts⟩ (x_count l G cI cQ d o18 hE_o18 9) (cwV 1 hts gL_comesSo_X4_count rfl rfl rfl cd_X4_count ⟨Nat.le_of_ble_eq_true rfl, Nat.le_of_ble_eq_true rfl⟩) hK hP rfl hl.1 rfl (Nat.le_of_ble_eq_true rfl) dL_comesSo_103 ⟨Nat.le_of_ble_eq_true rfl, Nat.le_of_ble_eq_true rfl⟩ ?_
    refine lv_cvt (y := 0) (by rw [hq_o18.2.1]; exact vc9f w.1 (fun q => h0 (ps_even w q))) ?_
    refine lv_iconst (v := 1) hx hb dL_comesSo_106 (by decide) ?_
    refine lv_icmp_ne (tgt := 114) hx hb dL_comesSo_107 (by decide) (fun _ => ?_) (fun c => absurd c (by decide))
    refine lv_iload hx hb dL_comesSo_114 (lv_at hl 7 rfl) ?_
    refine lv_iload_n hx hb dL_comesSo_116 rfl (lv_at hl 8 rfl) ?_
    refine lv_icmp_lt (tgt := 138) hx hb dL_comesSo_117 (by decide) (fun c => False.elim (absurd ((nI_ltI (by omega) (by omega)).mp c) (by omega))) (fun _ => ?_)
    refine lv_iload hx hb dL_comesSo_120 (lv_at hl 7 rfl) ?_
    refine lv_iconst (v := 2) hx hb dL_comesSo_122 (by decide) ?_
    refine lv_iload_n hx hb dL_comesSo_123 rfl (lv_at hl 8 rfl) ?_
    refine lv_imul hx hb dL_comesSo_124 ?_
    refine lv_cvt (y := (nI (2 * pS (eC o)))) (pk_mul 2 _) ?_
    refine lv_icmp_gt (tgt := 138) hx hb dL_comesSo_125 (by decide) (fun c => False.elim (absurd ((nI_ltI (by omega) (by omega)).mp c) (by omega))) (fun _ => ?_)
    refine lv_iload hx hb dL_comesSo_128 (lv_at hl 5 rfl) ?_
    refine lv_aload_n hx hb dL_comesSo_130 rfl (lv_at hl 10 rfl) ?_
    refine lv_iconst (v := 5) hx hb dL_comesSo_131 (by decide) ?_
    refine xpV (rest := [.int (nI (gtN (pD (eC o))))]) ⟨hx, hb, hml, hown, hts⟩ (x_count l G cI cQ d o18 hE_o18 5) (cwV 1 hts gL_comesSo_X4_count rfl rfl rfl cd_X4_count ⟨Nat.le_of_ble_eq_true rfl, Nat.le_of_ble_eq_true rfl⟩) hK hP rfl hl.1 rfl (Nat.le_of_ble_eq_true rfl) dL_comesSo_132 ⟨Nat.le_of_ble_eq_true rfl, Nat.le_of_ble_eq_true rfl⟩ ?_
    refine lv_cvt (y := (nI (gtN (eC o)))) (by rw [hq_o18.2.1]; exact vc5 w.1) ?_
    refine lv_icmp_le (tgt := 140) hx hb dL_comesSo_135 (by decide) (fun _ => ?_) (fun c => False.elim (c ((nI_leI (by have := gt_le pd1.1; omega) (by have := gt_le w.1; omega)).mpr pd5)))
    refine lv_aload_n hx hb dL_comesSo_140 rfl (lv_at hl 10 rfl) ?_
    refine lv_bipush (v := 10) hx hb dL_comesSo_141 (by decide) ?_
    refine xpV (rest := []) ⟨hx, hb, hml, hown, hts⟩ (x_count l G cI cQ d o18 hE_o18 10) (cwV 1 hts gL_comesSo_X4_count rfl rfl rfl cd_X4_count ⟨Nat.le_of_ble_eq_true rfl, Nat.le_of_ble_eq_true rfl⟩) hK hP rfl hl.1 rfl (Nat.le_of_ble_eq_true rfl) dL_comesSo_143 ⟨Nat.le_of_ble_eq_true rfl, Nat.le_of_ble_eq_true rfl⟩ ?_
    refine lv_cvt (y := (kbu (eC o))) (by rw [hq_o18.2.1]; rfl) ?_
    refine lv_istore (lv' := [(12, .int (kbu (eC o))), (11, .int (kSprice Y)), (10, .int (kSother Y)), (9, .int (nI g)), (8, .int (nI j)), (7, .int (if pEven (pD (eC o)) then (1 : Int32) else 0)), (6, .int (nI (gtN (pD (eC o))))), (5, .int (kbu (eC o) - kbu (pD (eC o)))), (4, .int (nI mm)), (3, .int (nI (pS (eC o)))), (1, .long (sumF (eC o))), (0, .ref (adE d))]) hx hb dL_comesSo_146 hl (by decide) rfl (fun ls hl => ?_)
    refine lv_aload_n hx hb dL_comesSo_148 rfl (lv_at hl 11 rfl) ?_
    refine lv_bipush (v := 12) hx hb dL_comesSo_149 (by decide) ?_
    refine xpV (rest := []) ⟨hx, hb, hml, hown, hts⟩ (x_count l G cI cQ d o18 hE_o18 12) (cwV 1 hts gL_comesSo_X4_count rfl rfl rfl cd_X4_count ⟨Nat.le_of_ble_eq_true rfl, Nat.le_of_ble_eq_true rfl⟩) hK hP rfl hl.1 rfl (Nat.le_of_ble_eq_true rfl) dL_comesSo_151 ⟨Nat.le_of_ble_eq_true rfl, Nat.le_of_ble_eq_true rfl⟩ ?_
    refine lv_cvt (y := (kmo (eC o))) (by rw [hq_o18.2.1]; rfl) ?_
    refine lv_istore (lv' := [(13, .int (kmo (eC o))), (12, .int (kbu (eC o))), (11, .int (kSprice Y)), (10, .int (kSother Y)), (9, .int (nI g)), (8, .int (nI j)), (7, .int (if pEven (pD (eC o)) then (1 : Int32) else 0)), (6, .int (nI (gtN (pD (eC o))))), (5, .int (kbu (eC o) - kbu (pD (eC o)))), (4, .int (nI mm)), (3, .int (nI (pS (eC o)))), (1, .long (sumF (eC o))), (0, .ref (adE d))]) hx hb dL_comesSo_154 hl (by decide) rfl (fun ls hl => ?_)
    refine lv_aload_n hx hb dL_comesSo_156 rfl (lv_at hl 12 rfl) ?_
    refine lv_bipush (v := 30) hx hb dL_comesSo_157 (by decide) ?_
    refine xmV (rest := []) ⟨hx, hb, hml, hown, hts⟩ (x_even l G cI cQ d o18 hE_o18 30 _) (cwV 1 hts gL_comesSo_X4_even rfl rfl rfl cd_X4_even ⟨Nat.le_of_ble_eq_true rfl, Nat.le_of_ble_eq_true rfl⟩) hK hP hD hS hA rfl hl.1 rfl (Nat.le_of_ble_eq_true rfl) dL_comesSo_159 ⟨Nat.le_of_ble_eq_true rfl, Nat.le_of_ble_eq_true rfl⟩ (fun o19 H locs ho19 hP hD hS => ?_)
    have hr_o19 : (fWalk (eC o18) (eX o18) 30).1 = (nI (pS (eC o))) := by rw [hq_o18.2.1]; exact (fw30 _ _).1
    have hs_o19 : (fWalk (eC o18) (eX o18) 30).2.1 = pD (eC o) := by rw [hq_o18.2.1]; exact (fw30 _ _).2
    have hE_o19 : EI o19 := ei_even hE_o18 (by rw [hs_o19]; exact pd1) ho19
    have hc_o19 : eC o19 = pD (eC o) := by rw [ho19]; exact hs_o19
    have hh_o19 := hh_even (o := o18) (by rw [hr_o19]; exact nI_pos (by omega)) ho19
    refine lv_cvt (y := (nI (pS (eC o)))) (hr_o19) ?_
    refine lv_iload_n hx hb dL_comesSo_162 rfl (lv_at hl 10 rfl) ?_
    refine lv_icmp_ne (tgt := 249) hx hb dL_comesSo_163 (by decide) (fun c => False.elim (c rfl)) (fun _ => ?_)
    refine lv_aload_n hx hb dL_comesSo_166 rfl (lv_at hl 12 rfl) ?_
    refine lv_bipush (v := 12) hx hb dL_comesSo_167 (by decide) ?_
    refine xpV (rest := []) ⟨hx, hb, hml, hown, hts⟩ (x_count l G cI cQ d o19 hE_o19 12) (cwV 1 hts gL_comesSo_X4_count rfl rfl rfl cd_X4_count ⟨Nat.le_of_ble_eq_true rfl, Nat.le_of_ble_eq_true rfl⟩) hK hP rfl hl.1 rfl (Nat.le_of_ble_eq_true rfl) dL_comesSo_169 ⟨Nat.le_of_ble_eq_true rfl, Nat.le_of_ble_eq_true rfl⟩ ?_
    refine lv_cvt (y := (kmo (eC o) + (nI mm))) (by rw [hc_o19]; exact pd9) ?_
    refine lv_iload hx hb dL_comesSo_172 (lv_at hl 0 rfl) ?_
    refine lv_iload hx hb dL_comesSo_174 (lv_at hl 9 rfl) ?_
    refine lv_iadd hx hb dL_comesSo_176 ?_
    refine lv_icmp_ne (tgt := 249) hx hb dL_comesSo_177 (by decide) (fun c => False.elim (c rfl)) (fun _ => ?_)
    refine lv_aload_n hx hb dL_comesSo_180 rfl (lv_at hl 12 rfl) ?_
    refine lv_bipush (v := 10) hx hb dL_comesSo_181 (by decide) ?_
    refine xpV (rest := []) ⟨hx, hb, hml, hown, hts⟩ (x_count l G cI cQ d o19 hE_o19 10) (cwV 1 hts gL_comesSo_X4_count rfl rfl rfl cd_X4_count ⟨Nat.le_of_ble_eq_true rfl, Nat.le_of_ble_eq_true rfl⟩) hK hP rfl hl.1 rfl (Nat.le_of_ble_eq_true rfl) dL_comesSo_183 ⟨Nat.le_of_ble_eq_true rfl, Nat.le_of_ble_eq_true rfl⟩ ?_
    refine lv_cvt (y := (kbu (eC o) - (kbu (eC o) - kbu (pD (eC o))))) (by rw [hc_o19]; show kbu (pD (eC o)) = _; rw [Int32.sub_eq_add_neg (kbu (eC o)), Int32.neg_sub, Int32.add_comm, Int32.sub_add_cancel]) ?_
    refine lv_iload hx hb dL_comesSo_186 (lv_at hl 1 rfl) ?_
    refine lv_iload hx hb dL_comesSo_188 (lv_at hl 8 rfl) ?_
    refine lv_isub hx hb dL_comesSo_190 ?_
    refine lv_icmp_ne (tgt := 249) hx hb dL_comesSo_191 (by decide) (fun c => False.elim (c rfl)) (fun _ => ?_)
    refine lv_aload_n hx hb dL_comesSo_194 rfl (lv_at hl 12 rfl) ?_
    refine lv_iconst (v := 5) hx hb dL_comesSo_195 (by decide) ?_
    refine xpV (rest := []) ⟨hx, hb, hml, hown, hts⟩ (x_count l G cI cQ d o19 hE_o19 5) (cwV 1 hts gL_comesSo_X4_count rfl rfl rfl cd_X4_count ⟨Nat.le_of_ble_eq_true rfl, Nat.le_of_ble_eq_true rfl⟩) hK hP rfl hl.1 rfl (Nat.le_of_ble_eq_true rfl) dL_comesSo_196 ⟨Nat.le_of_ble_eq_true rfl, Nat.le_of_ble_eq_true rfl⟩ ?_
    refine lv_cvt (y := (nI (gtN (pD (eC o))))) (by rw [hc_o19]; exact vc5 pd1.1) ?_
    refine lv_iload hx hb dL_comesSo_199 (lv_at hl 7 rfl) ?_
    refine lv_icmp_ne (tgt := 249) hx hb dL_comesSo_201 (by decide) (fun c => False.elim (c rfl)) (fun _ => ?_)
    refine lv_aload_n hx hb dL_comesSo_204 rfl (lv_at hl 12 rfl) ?_
    refine lv_bipush (v := 9) hx hb dL_comesSo_205 (by decide) ?_
    refine xpV (rest := []) ⟨hx, hb, hml, hown, hts⟩ (x_count l G cI cQ d o19 hE_o19 9) (cwV 1 hts gL_comesSo_X4_count rfl rfl rfl cd_X4_count ⟨Nat.le_of_ble_eq_true rfl, Nat.le_of_ble_eq_true rfl⟩) hK hP rfl hl.1 rfl (Nat.le_of_ble_eq_true rfl) dL_comesSo_207 ⟨Nat.le_of_ble_eq_true rfl, Nat.le_of_ble_eq_true rfl⟩ ?_
    refine lv_cvt (y := (if pEven (pD (eC o)) then (1 : Int32) else 0)) (by rw [hc_o19]; exact vc9 _ _ _) ?_
    refine lv_iload hx hb dL_comesSo_210 (lv_at hl 6 rfl) ?_
    refine lv_icmp_ne (tgt := 249) hx hb dL_comesSo_212 (by decide) (fun c => False.elim (c rfl)) (fun _ => ?_)
    refine lv_iload_n hx hb dL_comesSo_215 rfl (lv_at hl 10 rfl) ?_
    refine lv_bipush (v := 30) hx hb dL_comesSo_216 (by decide) ?_
    refine lv_icmp_eq (tgt := 229) hx hb dL_comesSo_218 (by decide) (fun c30 => ?_) (fun c30 => ?_)
    · skip
      have h30 : pS (eC o) = 30 := (nI_eq (b := 30) (by omega) (by decide)).mp c30
      refine lv_aload_n hx hb dL_comesSo_229 rfl (lv_at hl 12 rfl) ?_
      refine xmV (rest := []) ⟨hx, hb, hml, hown, hts⟩ (x_undo l G cI cQ d o19 hE_o19  _) (cwV 0 hts gL_comesSo_X4_undo rfl rfl rfl cd_X4_undo ⟨Nat.le_of_ble_eq_true rfl, Nat.le_of_ble_eq_true rfl⟩) hK hP hD hS hA rfl hl.1 rfl (Nat.le_of_ble_eq_true rfl) dL_comesSo_230 ⟨Nat.le_of_ble_eq_true rfl, Nat.le_of_ble_eq_true rfl⟩ (fun o20 H locs ho20 hP hD hS => ?_)
      have hu_o20 := ei_undo hE_o18 hh_o19.1 hh_o19.2 ho20
      have hE_o20 := hu_o20.2.1
      have hc_o20 : eC o20 = eC o := hu_o20.2.2.trans hq_o18.2.1
      refine lv_if_lt (tgt := 249) hx hb dL_comesSo_233 (by decide) (fun c => False.elim (hu_o20.1 c)) (fun _ => ?_)
      refine lv_aload_n hx hb dL_comesSo_236 rfl (lv_at hl 12 rfl) ?_
      refine xlS (rest := []) ⟨hx, hb, hml, hown, hts⟩ (c_L_sum l G cI cQ d o20 hE_o20) (cwS 1 hts gL_comesSo_L_sum rfl rfl rfl cd_L_sum ⟨Nat.le_of_ble_eq_true rfl, Nat.le_of_ble_eq_true rfl⟩) hK hP rfl hl.1 rfl (Nat.le_of_ble_eq_true rfl) dL_comesSo_237 ⟨Nat.le_of_ble_eq_true rfl, Nat.le_of_ble_eq_true rfl⟩ ?_
      refine lv_lload_n hx hb dL_comesSo_240 rfl (lv_at hl 11 rfl) ?_
      refine W.lcmp hx hb dL_comesSo_241 ?_
      refine lv_cvt (y := 0) (by rw [hc_o20]; exact lcmp_eq _) ?_
      refine lv_if_ne (tgt := 249) hx hb dL_comesSo_242 (by decide) (fun c => False.elim (c rfl)) (fun _ => ?_)
      refine lv_iconst (v := 1) hx hb dL_comesSo_245 (by decide) ?_
      refine lv_goto (tgt := 250) hx hb dL_comesSo_246 (by decide) ?_
      refine lv_istore (lv' := [(14, .int 1), (13, .int (kmo (eC o))), (12, .int (kbu (eC o))), (11, .int (kSprice Y)), (10, .int (kSother Y)), (9, .int (nI g)), (8, .int (nI j)), (7, .int (if pEven (pD (eC o)) then (1 : Int32) else 0)), (6, .int (nI (gtN (pD (eC o))))), (5, .int (kbu (eC o) - kbu (pD (eC o)))), (4, .int (nI mm)), (3, .int (nI (pS (eC o)))), (1, .long (sumF (eC o))), (0, .ref (adE d))]) hx hb dL_comesSo_250 hl (by decide) rfl (fun ls hl => ?_)
      refine lv_iload hx hb dL_comesSo_252 (lv_at hl 0 rfl) ?_
      refine lv_if_eq (tgt := 473) hx hb dL_comesSo_254 (by decide) (fun c => absurd c (by decide)) (fun _ => ?_)
      refine lv_iload_n hx hb dL_comesSo_257 rfl (lv_at hl 11 rfl) ?_
      refine lv_if_le (tgt := 473) hx hb dL_comesSo_258 (by decide) (fun c => False.elim (absurd ((nI_leI (b := 0) (by omega) (by decide)).mp c) (by omega))) (fun _ => ?_)
      refine lv_aload_n hx hb dL_comesSo_261 rfl (lv_at hl 13 rfl) ?_
      refine lv_iload hx hb dL_comesSo_262 (lv_at hl 6 rfl) ?_
      refine lv_iconst (v := 2) hx hb dL_comesSo_264 (by decide) ?_
      refine xpV (rest := []) ⟨hx, hb, hml, hown, hts⟩ (x_job l G cI cQ d o20 hE_o20 (nI j) 2) (cwV 2 hts gL_comesSo_X4_job rfl rfl rfl cd_X4_job ⟨Nat.le_of_ble_eq_true rfl, Nat.le_of_ble_eq_true rfl⟩) hK hP rfl hl.1 rfl (Nat.le_of_ble_eq_true rfl) dL_comesSo_265 ⟨Nat.le_of_ble_eq_true rfl, Nat.le_of_ble_eq_true rfl⟩ ?_
      refine lv_cvt (y := (nI f)) (by rw [hc_o20]; exact (vj2 w.1 s4).trans ((cpk w.1 s4 (by omega)).mpr s6)) ?_
      refine lv_istore (lv' := [(15, .int (nI f)), (14, .int 1), (13, .int (kmo (eC o))), (12, .int (kbu (eC o))), (11, .int (kSprice Y)), (10, .int (kSother Y)), (9, .int (nI g)), (8, .int (nI j)), (7, .int (if pEven (pD (eC o)) then (1 : Int32) else 0)), (6, .int (nI (gtN (pD (eC o))))), (5, .int (kbu (eC o) - kbu (pD (eC o)))), (4, .int (nI mm)), (3, .int (nI (pS (eC o)))), (1, .long (sumF (eC o))), (0, .ref (adE d))]) hx hb dL_comesSo_268 hl (by decide) rfl (fun ls hl => ?_)
      refine lv_aload_n hx hb dL_comesSo_270 rfl (lv_at hl 14 rfl) ?_
      refine lv_iload hx hb dL_comesSo_271 (lv_at hl 0 rfl) ?_
      refine lv_iconst (v := 1) hx hb dL_comesSo_273 (by decide) ?_
      refine xpV (rest := []) ⟨hx, hb, hml, hown, hts⟩ (x_server l G cI cQ d o20 hE_o20 (nI f) 1) (cwV 2 hts gL_comesSo_X4_server rfl rfl rfl cd_X4_server ⟨Nat.le_of_ble_eq_true rfl, Nat.le_of_ble_eq_true rfl⟩) hK hP rfl hl.1 rfl (Nat.le_of_ble_eq_true rfl) dL_comesSo_274 ⟨Nat.le_of_ble_eq_true rfl, Nat.le_of_ble_eq_true rfl⟩ ?_
      refine lv_cvt (y := (nI (loadN (eC o) f))) (by rw [hc_o20]; exact vs1 w.1 s3) ?_
      refine lv_istore (lv' := [(16, .int (nI (loadN (eC o) f))), (15, .int (nI f)), (14, .int 1), (13, .int (kmo (eC o))), (12, .int (kbu (eC o))), (11, .int (kSprice Y)), (10, .int (kSother Y)), (9, .int (nI g)), (8, .int (nI j)), (7, .int (if pEven (pD (eC o)) then (1 : Int32) else 0)), (6, .int (nI (gtN (pD (eC o))))), (5, .int (kbu (eC o) - kbu (pD (eC o)))), (4, .int (nI mm)), (3, .int (nI (pS (eC o)))), (1, .long (sumF (eC o))), (0, .ref (adE d))]) hx hb dL_comesSo_277 hl (by decide) rfl (fun ls hl => ?_)
      refine lv_iload hx hb dL_comesSo_279 (lv_at hl 0 rfl) ?_
      refine lv_aload_n hx hb dL_comesSo_281 rfl (lv_at hl 15 rfl) ?_
      refine lv_iconst (v := 5) hx hb dL_comesSo_282 (by decide) ?_
      refine xpV (rest := [.int (nI (loadN (eC o) f))]) ⟨hx, hb, hml, hown, hts⟩ (x_count l G cI cQ d o20 hE_o20 5) (cwV 1 hts gL_comesSo_X4_count rfl rfl rfl cd_X4_count ⟨Nat.le_of_ble_eq_true rfl, Nat.le_of_ble_eq_true rfl⟩) hK hP rfl hl.1 rfl (Nat.le_of_ble_eq_true rfl) dL_comesSo_283 ⟨Nat.le_of_ble_eq_true rfl, Nat.le_of_ble_eq_true rfl⟩ ?_
      refine lv_cvt (y := (nI (gtN (eC o)))) (by rw [hc_o20]; exact vc5 w.1) ?_
      refine lv_icmp_ne (tgt := 411) hx hb dL_comesSo_286 (by decide) (fun c => False.elim (c (congrArg nI s7))) (fun _ => ?_)
      refine lv_iload hx hb dL_comesSo_289 (lv_at hl 5 rfl) ?_
      refine lv_iload hx hb dL_comesSo_291 (lv_at hl 4 rfl) ?_
      refine lv_icmp_gt (tgt := 411) hx hb dL_comesSo_293 (by decide) (fun c => False.elim (s8 c)) (fun _ => ?_)
      refine lv_aload_n hx hb dL_comesSo_296 rfl (lv_at hl 15 rfl) ?_
      refine lv_iconst (v := 1) hx hb dL_comesSo_297 (by decide) ?_
      refine xmV (rest := []) ⟨hx, hb, hml, hown, hts⟩ (x_even l G cI cQ d o20 hE_o20 1 _) (cwV 1 hts gL_comesSo_X4_even rfl rfl rfl cd_X4_even ⟨Nat.le_of_ble_eq_true rfl, Nat.le_of_ble_eq_true rfl⟩) hK hP hD hS hA rfl hl.1 rfl (Nat.le_of_ble_eq_true rfl) dL_comesSo_298 ⟨Nat.le_of_ble_eq_true rfl, Nat.le_of_ble_eq_true rfl⟩ (fun o21 H locs ho21 hP hD hS => ?_)
      obtain ⟨z9, hz9⟩ := s2 (eX o20)
      have ez9 : fWalk (eC o20) (eX o20) 1 = (1, (AA, z9)) := by rw [hc_o20]; exact hz9
      have hr_o21 : (fWalk (eC o20) (eX o20) 1).1 = 1 := by rw [hc_o20]; exact congrArg Prod.fst hz9
      have hs_o21 : (fWalk (eC o20) (eX o20) 1).2.1 = AA := by rw [hc_o20]; exact congrArg (fun q => q.2.1) hz9
      have hE_o21 : EI o21 := ei_even hE_o20 (by rw [hs_o21]; exact s9) ho21
      have hc_o21 : eC o21 = AA := by rw [ho21]; exact hs_o21
      have hh_o21 := hh_even (o := o20) (by rw [hr_o21]; exact by decide) ho21
      refine lv_cvt (y := 1) (hr_o21) ?_
      refine lv_iconst (v := 1) hx hb dL_comesSo_301 (by decide) ?_
      refine lv_icmp_ne (tgt := 411) hx hb dL_comesSo_302 (by decide) (fun c => absurd c (by decide)) (fun _ => ?_)
      refine lv_aload_n hx hb dL_comesSo_305 rfl (lv_at hl 15 rfl) ?_
      refine lv_iload hx hb dL_comesSo_306 (lv_at hl 8 rfl) ?_
      refine lv_iconst (v := 2) hx hb dL_comesSo_308 (by decide) ?_
      refine xpV (rest := []) ⟨hx, hb, hml, hown, hts⟩ (x_job l G cI cQ d o21 hE_o21 (nI j) 2) (cwV 2 hts gL_comesSo_X4_job rfl rfl rfl cd_X4_job ⟨Nat.le_of_ble_eq_true rfl, Nat.le_of_ble_eq_true rfl⟩) hK hP rfl hl.1 rfl (Nat.le_of_ble_eq_true rfl) dL_comesSo_309 ⟨Nat.le_of_ble_eq_true rfl, Nat.le_of_ble_eq_true rfl⟩ ?_
      refine lv_cvt (y := (nI g)) (by rw [hc_o21]; exact (vj2 s9.1 (by rw [s15]; exact s4)).trans ((cpk s9.1 (by rw [s15]; exact s4) (by omega)).mpr s11)) ?_
      refine lv_iload hx hb dL_comesSo_312 (lv_at hl 7 rfl) ?_
      refine lv_icmp_ne (tgt := 411) hx hb dL_comesSo_314 (by decide) (fun c => False.elim (c rfl)) (fun _ => ?_)
      refine lv_iload hx hb dL_comesSo_317 (lv_at hl 6 rfl) ?_
      refine lv_bipush (v := (-9)) hx hb dL_comesSo_319 (by decide) ?_
      rcases s18 with ⟨t1, t2⟩ | ⟨i, t1, t2, t3, t4⟩
      · skip
        refine lv_icmp_eq (tgt := 336) hx hb dL_comesSo_321 (by decide) (fun _ => ?_) (fun c => False.elim (c t1))
        refine lv_aload_n hx hb dL_comesSo_336 rfl (lv_at hl 15 rfl) ?_
        refine lv_bipush (v := 10) hx hb dL_comesSo_337 (by decide) ?_
        refine xpV (rest := []) ⟨hx, hb, hml, hown, hts⟩ (x_count l G cI cQ d o21 hE_o21 10) (cwV 1 hts gL_comesSo_X4_count rfl rfl rfl cd_X4_count ⟨Nat.le_of_ble_eq_true rfl, Nat.le_of_ble_eq_true rfl⟩) hK hP rfl hl.1 rfl (Nat.le_of_ble_eq_true rfl) dL_comesSo_339 ⟨Nat.le_of_ble_eq_true rfl, Nat.le_of_ble_eq_true rfl⟩ ?_
        refine lv_cvt (y := (kbu (eC o) - (kSprice Y))) (by rw [hc_o21]; exact s10) ?_
        refine lv_iload hx hb dL_comesSo_342 (lv_at hl 4 rfl) ?_
        refine lv_iload hx hb dL_comesSo_344 (lv_at hl 5 rfl) ?_
        refine lv_isub hx hb dL_comesSo_346 ?_
        refine lv_icmp_ne (tgt := 411) hx hb dL_comesSo_347 (by decide) (fun c => False.elim (c rfl)) (fun _ => ?_)
        refine lv_aload_n hx hb dL_comesSo_350 rfl (lv_at hl 15 rfl) ?_
        refine lv_iload hx hb dL_comesSo_351 (lv_at hl 1 rfl) ?_
        refine lv_iconst (v := 1) hx hb dL_comesSo_353 (by decide) ?_
        refine xpV (rest := []) ⟨hx, hb, hml, hown, hts⟩ (x_server l G cI cQ d o21 hE_o21 (nI f) 1) (cwV 2 hts gL_comesSo_X4_server rfl rfl rfl cd_X4_server ⟨Nat.le_of_ble_eq_true rfl, Nat.le_of_ble_eq_true rfl⟩) hK hP rfl hl.1 rfl (Nat.le_of_ble_eq_true rfl) dL_comesSo_354 ⟨Nat.le_of_ble_eq_true rfl, Nat.le_of_ble_eq_true rfl⟩ ?_
        refine lv_cvt (y := (nI (loadN AA f))) (by rw [hc_o21]; exact vs1 s9.1 (by rw [s14]; exact s3)) ?_
        refine lv_iload hx hb dL_comesSo_357 (lv_at hl 0 rfl) ?_
        refine lv_icmp_ge (tgt := 411) hx hb dL_comesSo_359 (by decide) (fun c => False.elim (absurd ((nI_leI (by have := load_le w.1 f; omega) (by have := load_le s9.1 f; omega)).mp c) (by omega))) (fun _ => ?_)
        refine lv_aload_n hx hb dL_comesSo_362 rfl (lv_at hl 15 rfl) ?_
        refine lv_iload hx hb dL_comesSo_363 (lv_at hl 7 rfl) ?_
        refine lv_iconst (v := 1) hx hb dL_comesSo_365 (by decide) ?_
        refine xpV (rest := []) ⟨hx, hb, hml, hown, hts⟩ (x_server l G cI cQ d o21 hE_o21 (nI g) 1) (cwV 2 hts gL_comesSo_X4_server rfl rfl rfl cd_X4_server ⟨Nat.le_of_ble_eq_true rfl, Nat.le_of_ble_eq_true rfl⟩) hK hP rfl hl.1 rfl (Nat.le_of_ble_eq_true rfl) dL_comesSo_366 ⟨Nat.le_of_ble_eq_true rfl, Nat.le_of_ble_eq_true rfl⟩ ?_
        refine lv_cvt (y := (nI (loadN AA g))) (by rw [hc_o21]; exact vs1 s9.1 (by rw [s14]; exact s5)) ?_
        refine lv_iload hx hb dL_comesSo_369 (lv_at hl 0 rfl) ?_
        refine lv_icmp_ge (tgt := 411) hx hb dL_comesSo_371 (by decide) (fun c => False.elim (absurd ((nI_leI (by have := load_le w.1 f; omega) (by have := load_le s9.1 g; omega)).mp c) (by omega))) (fun _ => ?_)
        refine lv_iload_n hx hb dL_comesSo_374 rfl (lv_at hl 13 rfl) ?_
        refine lv_bipush (v := 30) hx hb dL_comesSo_375 (by decide) ?_
        refine lv_icmp_eq (tgt := 391) hx hb dL_comesSo_377 (by decide) (fun _ => ?_) (fun c => False.elim (c (congrArg nI h30)))
        refine lv_aload_n hx hb dL_comesSo_391 rfl (lv_at hl 15 rfl) ?_
        refine xmV (rest := []) ⟨hx, hb, hml, hown, hts⟩ (x_undo l G cI cQ d o21 hE_o21  _) (cwV 0 hts gL_comesSo_X4_undo rfl rfl rfl cd_X4_undo ⟨Nat.le_of_ble_eq_true rfl, Nat.le_of_ble_eq_true rfl⟩) hK hP hD hS hA rfl hl.1 rfl (Nat.le_of_ble_eq_true rfl) dL_comesSo_392 ⟨Nat.le_of_ble_eq_true rfl, Nat.le_of_ble_eq_true rfl⟩ (fun o22 H locs ho22 hP hD hS => ?_)
        have hu_o22 := ei_undo hE_o20 hh_o21.1 hh_o21.2 ho22
        have hE_o22 := hu_o22.2.1
        have hc_o22 : eC o22 = eC o := hu_o22.2.2.trans hc_o20
        refine lv_if_lt (tgt := 411) hx hb dL_comesSo_395 (by decide) (fun c => False.elim (hu_o22.1 c)) (fun _ => ?_)
        refine lv_aload_n hx hb dL_comesSo_398 rfl (lv_at hl 15 rfl) ?_
        refine xlS (rest := []) ⟨hx, hb, hml, hown, hts⟩ (c_L_sum l G cI cQ d o22 hE_o22) (cwS 1 hts gL_comesSo_L_sum rfl rfl rfl cd_L_sum ⟨Nat.le_of_ble_eq_true rfl, Nat.le_of_ble_eq_true rfl⟩) hK hP rfl hl.1 rfl (Nat.le_of_ble_eq_true rfl) dL_comesSo_399 ⟨Nat.le_of_ble_eq_true rfl, Nat.le_of_ble_eq_true rfl⟩ ?_
        refine lv_lload_n hx hb dL_comesSo_402 rfl (lv_at hl 14 rfl) ?_
        refine W.lcmp hx hb dL_comesSo_403 ?_
        refine lv_cvt (y := 0) (by rw [hc_o22]; exact lcmp_eq _) ?_
        refine lv_if_ne (tgt := 411) hx hb dL_comesSo_404 (by decide) (fun c => False.elim (c rfl)) (fun _ => ?_)
        refine lv_iconst (v := 1) hx hb dL_comesSo_407 (by decide) ?_
        refine lv_goto (tgt := 412) hx hb dL_comesSo_408 (by decide) ?_
        refine lv_istore (lv' := [(14, .int 1), (16, .int (nI (loadN (eC o) f))), (15, .int (nI f)), (13, .int (kmo (eC o))), (12, .int (kbu (eC o))), (11, .int (kSprice Y)), (10, .int (kSother Y)), (9, .int (nI g)), (8, .int (nI j)), (7, .int (if pEven (pD (eC o)) then (1 : Int32) else 0)), (6, .int (nI (gtN (pD (eC o))))), (5, .int (kbu (eC o) - kbu (pD (eC o)))), (4, .int (nI mm)), (3, .int (nI (pS (eC o)))), (1, .long (sumF (eC o))), (0, .ref (adE d))]) hx hb dL_comesSo_412 hl (by decide) rfl (fun ls hl => ?_)
        refine lv_iload hx hb dL_comesSo_414 (lv_at hl 0 rfl) ?_
        refine lv_if_eq (tgt := 470) hx hb dL_comesSo_416 (by decide) (fun c => absurd c (by decide)) (fun _ => ?_)
        refine lv_iload hx hb dL_comesSo_419 (lv_at hl 6 rfl) ?_
        refine lv_bipush (v := (-9)) hx hb dL_comesSo_421 (by decide) ?_
        refine lv_icmp_ne (tgt := 437) hx hb dL_comesSo_423 (by decide) (fun c => False.elim (c t1)) (fun _ => ?_)
        refine lv_aload_n hx hb dL_comesSo_426 rfl (lv_at hl 15 rfl) ?_
        refine lv_iload hx hb dL_comesSo_427 (lv_at hl 8 rfl) ?_
        refine lv_iload hx hb dL_comesSo_429 (lv_at hl 7 rfl) ?_
        refine xmV (rest := []) ⟨hx, hb, hml, hown, hts⟩ (x_move l G cI cQ d o22 hE_o22 (nI j) (nI g) _) (cwV 2 hts gL_comesSo_X4_move rfl rfl rfl cd_X4_move ⟨Nat.le_of_ble_eq_true rfl, Nat.le_of_ble_eq_true rfl⟩) hK hP hD hS hA rfl hl.1 rfl (Nat.le_of_ble_eq_true rfl) dL_comesSo_431 ⟨Nat.le_of_ble_eq_true rfl, Nat.le_of_ble_eq_true rfl⟩ (fun o23 H locs ho23 hP hD hS => ?_)
        have hr_o23 : (fMove (eC o22) (nI j) (nI g)) = (nI (gtN AA), AA) := by rw [hc_o22]; exact t2
        have hE_o23 : EI o23 := ei_act hE_o22 (by rw [hr_o23]; exact s9) ho23
        have hc_o23 : eC o23 = AA := by rw [ho23]; exact congrArg Prod.snd hr_o23
        have hh_o23 := hh_act (o := o22) (by rw [hr_o23]; exact nI_pos (by have := gt_le s9.1; omega)) ho23
        refine lv_cvt (y := nI (gtN AA)) (congrArg Prod.fst hr_o23) ?_
        refine lv_goto (tgt := 445) hx hb dL_comesSo_434 (by decide) ?_
        refine lv_iload hx hb dL_comesSo_445 (lv_at hl 1 rfl) ?_
        refine lv_icmp_gt (tgt := 470) hx hb dL_comesSo_447 (by decide) (fun c => False.elim (absurd ((nI_ltI (by have := load_le w.1 f; omega) (by have := gt_le s9.1; omega)).mp c) (by omega))) (fun _ => ?_)
        refine lv_aload_n hx hb dL_comesSo_450 rfl (lv_at hl 15 rfl) ?_
        refine xmV (rest := []) ⟨hx, hb, hml, hown, hts⟩ (x_undo l G cI cQ d o23 hE_o23  _) (cwV 0 hts gL_comesSo_X4_undo rfl rfl rfl cd_X4_undo ⟨Nat.le_of_ble_eq_true rfl, Nat.le_of_ble_eq_true rfl⟩) hK hP hD hS hA rfl hl.1 rfl (Nat.le_of_ble_eq_true rfl) dL_comesSo_451 ⟨Nat.le_of_ble_eq_true rfl, Nat.le_of_ble_eq_true rfl⟩ (fun o24 H locs ho24 hP hD hS => ?_)
        have hu_o24 := ei_undo hE_o22 hh_o23.1 hh_o23.2 ho24
        have hE_o24 := hu_o24.2.1
        have hc_o24 : eC o24 = eC o := hu_o24.2.2.trans hc_o22
        refine lv_if_lt (tgt := 470) hx hb dL_comesSo_454 (by decide) (fun c => False.elim (hu_o24.1 c)) (fun _ => ?_)
        refine lv_aload_n hx hb dL_comesSo_457 rfl (lv_at hl 15 rfl) ?_
        refine xlS (rest := []) ⟨hx, hb, hml, hown, hts⟩ (c_L_sum l G cI cQ d o24 hE_o24) (cwS 1 hts gL_comesSo_L_sum rfl rfl rfl cd_L_sum ⟨Nat.le_of_ble_eq_true rfl, Nat.le_of_ble_eq_true rfl⟩) hK hP rfl hl.1 rfl (Nat.le_of_ble_eq_true rfl) dL_comesSo_458 ⟨Nat.le_of_ble_eq_true rfl, Nat.le_of_ble_eq_true rfl⟩ ?_
        refine lv_lload_n hx hb dL_comesSo_461 rfl (lv_at hl 14 rfl) ?_
        refine W.lcmp hx hb dL_comesSo_462 ?_
        refine lv_cvt (y := 0) (by rw [hc_o24]; exact lcmp_eq _) ?_
        refine lv_if_ne (tgt := 470) hx hb dL_comesSo_463 (by decide) (fun c => False.elim (c rfl)) (fun _ => ?_)
        refine lv_iconst (v := 1) hx hb dL_comesSo_466 (by decide) ?_
        refine lv_goto (tgt := 471) hx hb dL_comesSo_467 (by decide) ?_
        refine lv_istore (lv' := [(14, .int 1), (16, .int (nI (loadN (eC o) f))), (15, .int (nI f)), (13, .int (kmo (eC o))), (12, .int (kbu (eC o))), (11, .int (kSprice Y)), (10, .int (kSother Y)), (9, .int (nI g)), (8, .int (nI j)), (7, .int (if pEven (pD (eC o)) then (1 : Int32) else 0)), (6, .int (nI (gtN (pD (eC o))))), (5, .int (kbu (eC o) - kbu (pD (eC o)))), (4, .int (nI mm)), (3, .int (nI (pS (eC o)))), (1, .long (sumF (eC o))), (0, .ref (adE d))]) hx hb dL_comesSo_471 hl (by decide) rfl (fun ls hl => ?_)
        refine lv_iload hx hb dL_comesSo_473 (lv_at hl 0 rfl) ?_
        exact m_ret (ty := .boolean) o24 hx hb hr hlocks rfl ⟨rfl, ⟨hE_o24, hc_o24⟩⟩ hP hD hS dL_comesSo_475
      · skip
        refine lv_icmp_eq (tgt := 336) hx hb dL_comesSo_321 (by decide) (fun c => False.elim (ne9 (by omega) (t2.symm.trans c))) (fun _ => ?_)
        rw [t2] at hl
        refine lv_aload_n hx hb dL_comesSo_324 rfl (lv_at hl 15 rfl) ?_
        refine lv_iload hx hb dL_comesSo_325 (lv_at hl 6 rfl) ?_
        refine lv_iconst (v := 2) hx hb dL_comesSo_327 (by decide) ?_
        refine xpV (rest := []) ⟨hx, hb, hml, hown, hts⟩ (x_job l G cI cQ d o21 hE_o21 (nI i) 2) (cwV 2 hts gL_comesSo_X4_job rfl rfl rfl cd_X4_job ⟨Nat.le_of_ble_eq_true rfl, Nat.le_of_ble_eq_true rfl⟩) hK hP rfl hl.1 rfl (Nat.le_of_ble_eq_true rfl) dL_comesSo_328 ⟨Nat.le_of_ble_eq_true rfl, Nat.le_of_ble_eq_true rfl⟩ ?_
        refine lv_cvt (y := (nI f)) (by rw [hc_o21]; exact (vj2 s9.1 (by rw [s15]; exact t1)).trans ((cpk s9.1 (by rw [s15]; exact t1) (by omega)).mpr t3)) ?_
        refine lv_iload hx hb dL_comesSo_331 (lv_at hl 1 rfl) ?_
        refine lv_icmp_ne (tgt := 411) hx hb dL_comesSo_333 (by decide) (fun c => False.elim (c rfl)) (fun _ => ?_)
        refine lv_aload_n hx hb dL_comesSo_336 rfl (lv_at hl 15 rfl) ?_
        refine lv_bipush (v := 10) hx hb dL_comesSo_337 (by decide) ?_
        refine xpV (rest := []) ⟨hx, hb, hml, hown, hts⟩ (x_count l G cI cQ d o21 hE_o21 10) (cwV 1 hts gL_comesSo_X4_count rfl rfl rfl cd_X4_count ⟨Nat.le_of_ble_eq_true rfl, Nat.le_of_ble_eq_true rfl⟩) hK hP rfl hl.1 rfl (Nat.le_of_ble_eq_true rfl) dL_comesSo_339 ⟨Nat.le_of_ble_eq_true rfl, Nat.le_of_ble_eq_true rfl⟩ ?_
        refine lv_cvt (y := (kbu (eC o) - (kSprice Y))) (by rw [hc_o21]; exact s10) ?_
        refine lv_iload hx hb dL_comesSo_342 (lv_at hl 4 rfl) ?_
        refine lv_iload hx hb dL_comesSo_344 (lv_at hl 5 rfl) ?_
        refine lv_isub hx hb dL_comesSo_346 ?_
        refine lv_icmp_ne (tgt := 411) hx hb dL_comesSo_347 (by decide) (fun c => False.elim (c rfl)) (fun _ => ?_)
        refine lv_aload_n hx hb dL_comesSo_350 rfl (lv_at hl 15 rfl) ?_
        refine lv_iload hx hb dL_comesSo_351 (lv_at hl 1 rfl) ?_
        refine lv_iconst (v := 1) hx hb dL_comesSo_353 (by decide) ?_
        refine xpV (rest := []) ⟨hx, hb, hml, hown, hts⟩ (x_server l G cI cQ d o21 hE_o21 (nI f) 1) (cwV 2 hts gL_comesSo_X4_server rfl rfl rfl cd_X4_server ⟨Nat.le_of_ble_eq_true rfl, Nat.le_of_ble_eq_true rfl⟩) hK hP rfl hl.1 rfl (Nat.le_of_ble_eq_true rfl) dL_comesSo_354 ⟨Nat.le_of_ble_eq_true rfl, Nat.le_of_ble_eq_true rfl⟩ ?_
        refine lv_cvt (y := (nI (loadN AA f))) (by rw [hc_o21]; exact vs1 s9.1 (by rw [s14]; exact s3)) ?_
        refine lv_iload hx hb dL_comesSo_357 (lv_at hl 0 rfl) ?_
        refine lv_icmp_ge (tgt := 411) hx hb dL_comesSo_359 (by decide) (fun c => False.elim (absurd ((nI_leI (by have := load_le w.1 f; omega) (by have := load_le s9.1 f; omega)).mp c) (by omega))) (fun _ => ?_)
        refine lv_aload_n hx hb dL_comesSo_362 rfl (lv_at hl 15 rfl) ?_
        refine lv_iload hx hb dL_comesSo_363 (lv_at hl 7 rfl) ?_
        refine lv_iconst (v := 1) hx hb dL_comesSo_365 (by decide) ?_
        refine xpV (rest := []) ⟨hx, hb, hml, hown, hts⟩ (x_server l G cI cQ d o21 hE_o21 (nI g) 1) (cwV 2 hts gL_comesSo_X4_server rfl rfl rfl cd_X4_server ⟨Nat.le_of_ble_eq_true rfl, Nat.le_of_ble_eq_true rfl⟩) hK hP rfl hl.1 rfl (Nat.le_of_ble_eq_true rfl) dL_comesSo_366 ⟨Nat.le_of_ble_eq_true rfl, Nat.le_of_ble_eq_true rfl⟩ ?_
        refine lv_cvt (y := (nI (loadN AA g))) (by rw [hc_o21]; exact vs1 s9.1 (by rw [s14]; exact s5)) ?_
        refine lv_iload hx hb dL_comesSo_369 (lv_at hl 0 rfl) ?_
        refine lv_icmp_ge (tgt := 411) hx hb dL_comesSo_371 (by decide) (fun c => False.elim (absurd ((nI_leI (by have := load_le w.1 f; omega) (by have := load_le s9.1 g; omega)).mp c) (by omega))) (fun _ => ?_)
        refine lv_iload_n hx hb dL_comesSo_374 rfl (lv_at hl 13 rfl) ?_
        refine lv_bipush (v := 30) hx hb dL_comesSo_375 (by decide) ?_
        refine lv_icmp_eq (tgt := 391) hx hb dL_comesSo_377 (by decide) (fun _ => ?_) (fun c => False.elim (c (congrArg nI h30)))
        refine lv_aload_n hx hb dL_comesSo_391 rfl (lv_at hl 15 rfl) ?_
        refine xmV (rest := []) ⟨hx, hb, hml, hown, hts⟩ (x_undo l G cI cQ d o21 hE_o21  _) (cwV 0 hts gL_comesSo_X4_undo rfl rfl rfl cd_X4_undo ⟨Nat.le_of_ble_eq_true rfl, Nat.le_of_ble_eq_true rfl⟩) hK hP hD hS hA rfl hl.1 rfl (Nat.le_of_ble_eq_true rfl) dL_comesSo_392 ⟨Nat.le_of_ble_eq_true rfl, Nat.le_of_ble_eq_true rfl⟩ (fun o25 H locs ho25 hP hD hS => ?_)
        have hu_o25 := ei_undo hE_o20 hh_o21.1 hh_o21.2 ho25
        have hE_o25 := hu_o25.2.1
        have hc_o25 : eC o25 = eC o := hu_o25.2.2.trans hc_o20
        refine lv_if_lt (tgt := 411) hx hb dL_comesSo_395 (by decide) (fun c => False.elim (hu_o25.1 c)) (fun _ => ?_)
        refine lv_aload_n hx hb dL_comesSo_398 rfl (lv_at hl 15 rfl) ?_
        refine xlS (rest := []) ⟨hx, hb, hml, hown, hts⟩ (c_L_sum l G cI cQ d o25 hE_o25) (cwS 1 hts gL_comesSo_L_sum rfl rfl rfl cd_L_sum ⟨Nat.le_of_ble_eq_true rfl, Nat.le_of_ble_eq_true rfl⟩) hK hP rfl hl.1 rfl (Nat.le_of_ble_eq_true rfl) dL_comesSo_399 ⟨Nat.le_of_ble_eq_true rfl, Nat.le_of_ble_eq_true rfl⟩ ?_
        refine lv_lload_n hx hb dL_comesSo_402 rfl (lv_at hl 14 rfl) ?_
        refine W.lcmp hx hb dL_comesSo_403 ?_
        refine lv_cvt (y := 0) (by rw [hc_o25]; exact lcmp_eq _) ?_
        refine lv_if_ne (tgt := 411) hx hb dL_comesSo_404 (by decide) (fun c => False.elim (c rfl)) (fun _ => ?_)
        refine lv_iconst (v := 1) hx hb dL_comesSo_407 (by decide) ?_
        refine lv_goto (tgt := 412) hx hb dL_comesSo_408 (by decide) ?_
        refine lv_istore (lv' := [(14, .int 1), (16, .int (nI (loadN (eC o) f))), (15, .int (nI f)), (13, .int (kmo (eC o))), (12, .int (kbu (eC o))), (11, .int (kSprice Y)), (10, .int (nI i)), (9, .int (nI g)), (8, .int (nI j)), (7, .int (if pEven (pD (eC o)) then (1 : Int32) else 0)), (6, .int (nI (gtN (pD (eC o))))), (5, .int (kbu (eC o) - kbu (pD (eC o)))), (4, .int (nI mm)), (3, .int (nI (pS (eC o)))), (1, .long (sumF (eC o))), (0, .ref (adE d))]) hx hb dL_comesSo_412 hl (by decide) rfl (fun ls hl => ?_)
        refine lv_iload hx hb dL_comesSo_414 (lv_at hl 0 rfl) ?_
        refine lv_if_eq (tgt := 470) hx hb dL_comesSo_416 (by decide) (fun c => absurd c (by decide)) (fun _ => ?_)
        refine lv_iload hx hb dL_comesSo_419 (lv_at hl 6 rfl) ?_
        refine lv_bipush (v := (-9)) hx hb dL_comesSo_421 (by decide) ?_
        refine lv_icmp_ne (tgt := 437) hx hb dL_comesSo_423 (by decide) (fun _ => ?_) (fun c => False.elim (ne9 (by omega) c))
        refine lv_aload_n hx hb dL_comesSo_437 rfl (lv_at hl 15 rfl) ?_
        refine lv_iload hx hb dL_comesSo_438 (lv_at hl 8 rfl) ?_
        refine lv_iload hx hb dL_comesSo_440 (lv_at hl 6 rfl) ?_
        refine xmV (rest := []) ⟨hx, hb, hml, hown, hts⟩ (x_exchange l G cI cQ d o25 hE_o25 (nI j) (nI i) _) (cwV 2 hts gL_comesSo_X4_exchange rfl rfl rfl cd_X4_exchange ⟨Nat.le_of_ble_eq_true rfl, Nat.le_of_ble_eq_true rfl⟩) hK hP hD hS hA rfl hl.1 rfl (Nat.le_of_ble_eq_true rfl) dL_comesSo_442 ⟨Nat.le_of_ble_eq_true rfl, Nat.le_of_ble_eq_true rfl⟩ (fun o26 H locs ho26 hP hD hS => ?_)
        have hr_o26 : (fExch (eC o25) (nI j) (nI i)) = (nI (gtN AA), AA) := by rw [hc_o25]; exact t4
        have hE_o26 : EI o26 := ei_act hE_o25 (by rw [hr_o26]; exact s9) ho26
        have hc_o26 : eC o26 = AA := by rw [ho26]; exact congrArg Prod.snd hr_o26
        have hh_o26 := hh_act (o := o25) (by rw [hr_o26]; exact nI_pos (by have := gt_le s9.1; omega)) ho26
        refine lv_cvt (y := nI (gtN AA)) (congrArg Prod.fst hr_o26) ?_
        refine lv_iload hx hb dL_comesSo_445 (lv_at hl 1 rfl) ?_
        refine lv_icmp_gt (tgt := 470) hx hb dL_comesSo_447 (by decide) (fun c => False.elim (absurd ((nI_ltI (by have := load_le w.1 f; omega) (by have := gt_le s9.1; omega)).mp c) (by omega))) (fun _ => ?_)
        refine lv_aload_n hx hb dL_comesSo_450 rfl (lv_at hl 15 rfl) ?_
        refine xmV (rest := []) ⟨hx, hb, hml, hown, hts⟩ (x_undo l G cI cQ d o26 hE_o26  _) (cwV 0 hts gL_comesSo_X4_undo rfl rfl rfl cd_X4_undo ⟨Nat.le_of_ble_eq_true rfl, Nat.le_of_ble_eq_true rfl⟩) hK hP hD hS hA rfl hl.1 rfl (Nat.le_of_ble_eq_true rfl) dL_comesSo_451 ⟨Nat.le_of_ble_eq_true rfl, Nat.le_of_ble_eq_true rfl⟩ (fun o27 H locs ho27 hP hD hS => ?_)
        have hu_o27 := ei_undo hE_o25 hh_o26.1 hh_o26.2 ho27
        have hE_o27 := hu_o27.2.1
        have hc_o27 : eC o27 = eC o := hu_o27.2.2.trans hc_o25
        refine lv_if_lt (tgt := 470) hx hb dL_comesSo_454 (by decide) (fun c => False.elim (hu_o27.1 c)) (fun _ => ?_)
        refine lv_aload_n hx hb dL_comesSo_457 rfl (lv_at hl 15 rfl) ?_
        refine xlS (rest := []) ⟨hx, hb, hml, hown, hts⟩ (c_L_sum l G cI cQ d o27 hE_o27) (cwS 1 hts gL_comesSo_L_sum rfl rfl rfl cd_L_sum ⟨Nat.le_of_ble_eq_true rfl, Nat.le_of_ble_eq_true rfl⟩) hK hP rfl hl.1 rfl (Nat.le_of_ble_eq_true rfl) dL_comesSo_458 ⟨Nat.le_of_ble_eq_true rfl, Nat.le_of_ble_eq_true rfl⟩ ?_
        refine lv_lload_n hx hb dL_comesSo_461 rfl (lv_at hl 14 rfl) ?_
        refine W.lcmp hx hb dL_comesSo_462 ?_
        refine lv_cvt (y := 0) (by rw [hc_o27]; exact lcmp_eq _) ?_
        refine lv_if_ne (tgt := 470) hx hb dL_comesSo_463 (by decide) (fun c => False.elim (c rfl)) (fun _ => ?_)
        refine lv_iconst (v := 1) hx hb dL_comesSo_466 (by decide) ?_
        refine lv_goto (tgt := 471) hx hb dL_comesSo_467 (by decide) ?_
        refine lv_istore (lv' := [(14, .int 1), (16, .int (nI (loadN (eC o) f))), (15, .int (nI f)), (13, .int (kmo (eC o))), (12, .int (kbu (eC o))), (11, .int (kSprice Y)), (10, .int (nI i)), (9, .int (nI g)), (8, .int (nI j)), (7, .int (if pEven (pD (eC o)) then (1 : Int32) else 0)), (6, .int (nI (gtN (pD (eC o))))), (5, .int (kbu (eC o) - kbu (pD (eC o)))), (4, .int (nI mm)), (3, .int (nI (pS (eC o)))), (1, .long (sumF (eC o))), (0, .ref (adE d))]) hx hb dL_comesSo_471 hl (by decide) rfl (fun ls hl => ?_)
        refine lv_iload hx hb dL_comesSo_473 (lv_at hl 0 rfl) ?_
        exact m_ret (ty := .boolean) o27 hx hb hr hlocks rfl ⟨rfl, ⟨hE_o27, hc_o27⟩⟩ hP hD hS dL_comesSo_475
    · skip
      have h30 : pS (eC o) < 30 := Nat.lt_of_le_of_ne pd6 (fun q => c30 (congrArg nI q))
      refine lv_aload_n hx hb dL_comesSo_221 rfl (lv_at hl 12 rfl) ?_
      refine lv_iconst (v := 0) hx hb dL_comesSo_222 (by decide) ?_
      refine xmV (rest := []) ⟨hx, hb, hml, hown, hts⟩ (x_plan l G cI cQ d o19 hE_o19 0 _) (cwV 1 hts gL_comesSo_X4_plan rfl rfl rfl cd_X4_plan ⟨Nat.le_of_ble_eq_true rfl, Nat.le_of_ble_eq_true rfl⟩) hK hP hD hS hA rfl hl.1 rfl (Nat.le_of_ble_eq_true rfl) dL_comesSo_223 ⟨Nat.le_of_ble_eq_true rfl, Nat.le_of_ble_eq_true rfl⟩ (fun o28 H locs ho28 hP hD hS => ?_)
      refine lv_cvt (y := 0) (by rw [hc_o19]; exact (pl0 _ _).trans (congrArg nI (ps_D w h30))) ?_
      have hq9_o28 := q_plan hE_o19 ho28
      have hE_o28 := hq9_o28.1
      have hh_o28 := hh_q hh_o19 hq9_o28 (by rw [ho28]; rfl)
      refine lv_if_ne (tgt := 249) hx hb dL_comesSo_226 (by decide) (fun c => False.elim (c rfl)) (fun _ => ?_)
      refine lv_aload_n hx hb dL_comesSo_229 rfl (lv_at hl 12 rfl) ?_
      refine xmV (rest := []) ⟨hx, hb, hml, hown, hts⟩ (x_undo l G cI cQ d o28 hE_o28  _) (cwV 0 hts gL_comesSo_X4_undo rfl rfl rfl cd_X4_undo ⟨Nat.le_of_ble_eq_true rfl, Nat.le_of_ble_eq_true rfl⟩) hK hP hD hS hA rfl hl.1 rfl (Nat.le_of_ble_eq_true rfl) dL_comesSo_230 ⟨Nat.le_of_ble_eq_true rfl, Nat.le_of_ble_eq_true rfl⟩ (fun o29 H locs ho29 hP hD hS => ?_)
      have hu_o29 := ei_undo hE_o18 hh_o28.1 hh_o28.2 ho29
      have hE_o29 := hu_o29.2.1
      have hc_o29 : eC o29 = eC o := hu_o29.2.2.trans hq_o18.2.1
      refine lv_if_lt (tgt := 249) hx hb dL_comesSo_233 (by decide) (fun c => False.elim (hu_o29.1 c)) (fun _ => ?_)
      refine lv_aload_n hx hb dL_comesSo_236 rfl (lv_at hl 12 rfl) ?_
      refine xlS (rest := []) ⟨hx, hb, hml, hown, hts⟩ (c_L_sum l G cI cQ d o29 hE_o29) (cwS 1 hts gL_comesSo_L_sum rfl rfl rfl cd_L_sum ⟨Nat.le_of_ble_eq_true rfl, Nat.le_of_ble_eq_true rfl⟩) hK hP rfl hl.1 rfl (Nat.le_of_ble_eq_true rfl) dL_comesSo_237 ⟨Nat.le_of_ble_eq_true rfl, Nat.le_of_ble_eq_true rfl⟩ ?_
      refine lv_lload_n hx hb dL_comesSo_240 rfl (lv_at hl 11 rfl) ?_
      refine W.lcmp hx hb dL_comesSo_241 ?_
      refine lv_cvt (y := 0) (by rw [hc_o29]; exact lcmp_eq _) ?_
      refine lv_if_ne (tgt := 249) hx hb dL_comesSo_242 (by decide) (fun c => False.elim (c rfl)) (fun _ => ?_)
      refine lv_iconst (v := 1) hx hb dL_comesSo_245 (by decide) ?_
      refine lv_goto (tgt := 250) hx hb dL_comesSo_246 (by decide) ?_
      refine lv_istore (lv' := [(14, .int 1), (13, .int (kmo (eC o))), (12, .int (kbu (eC o))), (11, .int (kSprice Y)), (10, .int (kSother Y)), (9, .int (nI g)), (8, .int (nI j)), (7, .int (if pEven (pD (eC o)) then (1 : Int32) else 0)), (6, .int (nI (gtN (pD (eC o))))), (5, .int (kbu (eC o) - kbu (pD (eC o)))), (4, .int (nI mm)), (3, .int (nI (pS (eC o)))), (1, .long (sumF (eC o))), (0, .ref (adE d))]) hx hb dL_comesSo_250 hl (by decide) rfl (fun ls hl => ?_)
      refine lv_iload hx hb dL_comesSo_252 (lv_at hl 0 rfl) ?_
      refine lv_if_eq (tgt := 473) hx hb dL_comesSo_254 (by decide) (fun c => absurd c (by decide)) (fun _ => ?_)
      refine lv_iload_n hx hb dL_comesSo_257 rfl (lv_at hl 11 rfl) ?_
      refine lv_if_le (tgt := 473) hx hb dL_comesSo_258 (by decide) (fun c => False.elim (absurd ((nI_leI (b := 0) (by omega) (by decide)).mp c) (by omega))) (fun _ => ?_)
      refine lv_aload_n hx hb dL_comesSo_261 rfl (lv_at hl 13 rfl) ?_
      refine lv_iload hx hb dL_comesSo_262 (lv_at hl 6 rfl) ?_
      refine lv_iconst (v := 2) hx hb dL_comesSo_264 (by decide) ?_
      refine xpV (rest := []) ⟨hx, hb, hml, hown, hts⟩ (x_job l G cI cQ d o29 hE_o29 (nI j) 2) (cwV 2 hts gL_comesSo_X4_job rfl rfl rfl cd_X4_job ⟨Nat.le_of_ble_eq_true rfl, Nat.le_of_ble_eq_true rfl⟩) hK hP rfl hl.1 rfl (Nat.le_of_ble_eq_true rfl) dL_comesSo_265 ⟨Nat.le_of_ble_eq_true rfl, Nat.le_of_ble_eq_true rfl⟩ ?_
      refine lv_cvt (y := (nI f)) (by rw [hc_o29]; exact (vj2 w.1 s4).trans ((cpk w.1 s4 (by omega)).mpr s6)) ?_
      refine lv_istore (lv' := [(15, .int (nI f)), (14, .int 1), (13, .int (kmo (eC o))), (12, .int (kbu (eC o))), (11, .int (kSprice Y)), (10, .int (kSother Y)), (9, .int (nI g)), (8, .int (nI j)), (7, .int (if pEven (pD (eC o)) then (1 : Int32) else 0)), (6, .int (nI (gtN (pD (eC o))))), (5, .int (kbu (eC o) - kbu (pD (eC o)))), (4, .int (nI mm)), (3, .int (nI (pS (eC o)))), (1, .long (sumF (eC o))), (0, .ref (adE d))]) hx hb dL_comesSo_268 hl (by decide) rfl (fun ls hl => ?_)
      refine lv_aload_n hx hb dL_comesSo_270 rfl (lv_at hl 14 rfl) ?_
      refine lv_iload hx hb dL_comesSo_271 (lv_at hl 0 rfl) ?_
      refine lv_iconst (v := 1) hx hb dL_comesSo_273 (by decide) ?_
      refine xpV (rest := []) ⟨hx, hb, hml, hown, hts⟩ (x_server l G cI cQ d o29 hE_o29 (nI f) 1) (cwV 2 hts gL_comesSo_X4_server rfl rfl rfl cd_X4_server ⟨Nat.le_of_ble_eq_true rfl, Nat.le_of_ble_eq_true rfl⟩) hK hP rfl hl.1 rfl (Nat.le_of_ble_eq_true rfl) dL_comesSo_274 ⟨Nat.le_of_ble_eq_true rfl, Nat.le_of_ble_eq_true rfl⟩ ?_
      refine lv_cvt (y := (nI (loadN (eC o) f))) (by rw [hc_o29]; exact vs1 w.1 s3) ?_
      refine lv_istore (lv' := [(16, .int (nI (loadN (eC o) f))), (15, .int (nI f)), (14, .int 1), (13, .int (kmo (eC o))), (12, .int (kbu (eC o))), (11, .int (kSprice Y)), (10, .int (kSother Y)), (9, .int (nI g)), (8, .int (nI j)), (7, .int (if pEven (pD (eC o)) then (1 : Int32) else 0)), (6, .int (nI (gtN (pD (eC o))))), (5, .int (kbu (eC o) - kbu (pD (eC o)))), (4, .int (nI mm)), (3, .int (nI (pS (eC o)))), (1, .long (sumF (eC o))), (0, .ref (adE d))]) hx hb dL_comesSo_277 hl (by decide) rfl (fun ls hl => ?_)
      refine lv_iload hx hb dL_comesSo_279 (lv_at hl 0 rfl) ?_
      refine lv_aload_n hx hb dL_comesSo_281 rfl (lv_at hl 15 rfl) ?_
      refine lv_iconst (v := 5) hx hb dL_comesSo_282 (by decide) ?_
      refine xpV (rest := [.int (nI (loadN (eC o) f))]) ⟨hx, hb, hml, hown, hts⟩ (x_count l G cI cQ d o29 hE_o29 5) (cwV 1 hts gL_comesSo_X4_count rfl rfl rfl cd_X4_count ⟨Nat.le_of_ble_eq_true rfl, Nat.le_of_ble_eq_true rfl⟩) hK hP rfl hl.1 rfl (Nat.le_of_ble_eq_true rfl) dL_comesSo_283 ⟨Nat.le_of_ble_eq_true rfl, Nat.le_of_ble_eq_true rfl⟩ ?_
      refine lv_cvt (y := (nI (gtN (eC o)))) (by rw [hc_o29]; exact vc5 w.1) ?_
      refine lv_icmp_ne (tgt := 411) hx hb dL_comesSo_286 (by decide) (fun c => False.elim (c (congrArg nI s7))) (fun _ => ?_)
      refine lv_iload hx hb dL_comesSo_289 (lv_at hl 5 rfl) ?_
      refine lv_iload hx hb dL_comesSo_291 (lv_at hl 4 rfl) ?_
      refine lv_icmp_gt (tgt := 411) hx hb dL_comesSo_293 (by decide) (fun c => False.elim (s8 c)) (fun _ => ?_)
      refine lv_aload_n hx hb dL_comesSo_296 rfl (lv_at hl 15 rfl) ?_
      refine lv_iconst (v := 1) hx hb dL_comesSo_297 (by decide) ?_
      refine xmV (rest := []) ⟨hx, hb, hml, hown, hts⟩ (x_even l G cI cQ d o29 hE_o29 1 _) (cwV 1 hts gL_comesSo_X4_even rfl rfl rfl cd_X4_even ⟨Nat.le_of_ble_eq_true rfl, Nat.le_of_ble_eq_true rfl⟩) hK hP hD hS hA rfl hl.1 rfl (Nat.le_of_ble_eq_true rfl) dL_comesSo_298 ⟨Nat.le_of_ble_eq_true rfl, Nat.le_of_ble_eq_true rfl⟩ (fun o30 H locs ho30 hP hD hS => ?_)
      obtain ⟨z9, hz9⟩ := s2 (eX o29)
      have ez9 : fWalk (eC o29) (eX o29) 1 = (1, (AA, z9)) := by rw [hc_o29]; exact hz9
      have hr_o30 : (fWalk (eC o29) (eX o29) 1).1 = 1 := by rw [hc_o29]; exact congrArg Prod.fst hz9
      have hs_o30 : (fWalk (eC o29) (eX o29) 1).2.1 = AA := by rw [hc_o29]; exact congrArg (fun q => q.2.1) hz9
      have hE_o30 : EI o30 := ei_even hE_o29 (by rw [hs_o30]; exact s9) ho30
      have hc_o30 : eC o30 = AA := by rw [ho30]; exact hs_o30
      have hh_o30 := hh_even (o := o29) (by rw [hr_o30]; exact by decide) ho30
      refine lv_cvt (y := 1) (hr_o30) ?_
      refine lv_iconst (v := 1) hx hb dL_comesSo_301 (by decide) ?_
      refine lv_icmp_ne (tgt := 411) hx hb dL_comesSo_302 (by decide) (fun c => absurd c (by decide)) (fun _ => ?_)
      refine lv_aload_n hx hb dL_comesSo_305 rfl (lv_at hl 15 rfl) ?_
      refine lv_iload hx hb dL_comesSo_306 (lv_at hl 8 rfl) ?_
      refine lv_iconst (v := 2) hx hb dL_comesSo_308 (by decide) ?_
      refine xpV (rest := []) ⟨hx, hb, hml, hown, hts⟩ (x_job l G cI cQ d o30 hE_o30 (nI j) 2) (cwV 2 hts gL_comesSo_X4_job rfl rfl rfl cd_X4_job ⟨Nat.le_of_ble_eq_true rfl, Nat.le_of_ble_eq_true rfl⟩) hK hP rfl hl.1 rfl (Nat.le_of_ble_eq_true rfl) dL_comesSo_309 ⟨Nat.le_of_ble_eq_true rfl, Nat.le_of_ble_eq_true rfl⟩ ?_
      refine lv_cvt (y := (nI g)) (by rw [hc_o30]; exact (vj2 s9.1 (by rw [s15]; exact s4)).trans ((cpk s9.1 (by rw [s15]; exact s4) (by omega)).mpr s11)) ?_
      refine lv_iload hx hb dL_comesSo_312 (lv_at hl 7 rfl) ?_
      refine lv_icmp_ne (tgt := 411) hx hb dL_comesSo_314 (by decide) (fun c => False.elim (c rfl)) (fun _ => ?_)
      refine lv_iload hx hb dL_comesSo_317 (lv_at hl 6 rfl) ?_
      refine lv_bipush (v := (-9)) hx hb dL_comesSo_319 (by decide) ?_
      rcases s18 with ⟨t1, t2⟩ | ⟨i, t1, t2, t3, t4⟩
      · skip
        refine lv_icmp_eq (tgt := 336) hx hb dL_comesSo_321 (by decide) (fun _ => ?_) (fun c => False.elim (c t1))
        refine lv_aload_n hx hb dL_comesSo_336 rfl (lv_at hl 15 rfl) ?_
        refine lv_bipush (v := 10) hx hb dL_comesSo_337 (by decide) ?_
        refine xpV (rest := []) ⟨hx, hb, hml, hown, hts⟩ (x_count l G cI cQ d o30 hE_o30 10) (cwV 1 hts gL_comesSo_X4_count rfl rfl rfl cd_X4_count ⟨Nat.le_of_ble_eq_true rfl, Nat.le_of_ble_eq_true rfl⟩) hK hP rfl hl.1 rfl (Nat.le_of_ble_eq_true rfl) dL_comesSo_339 ⟨Nat.le_of_ble_eq_true rfl, Nat.le_of_ble_eq_true rfl⟩ ?_
        refine lv_cvt (y := (kbu (eC o) - (kSprice Y))) (by rw [hc_o30]; exact s10) ?_
        refine lv_iload hx hb dL_comesSo_342 (lv_at hl 4 rfl) ?_
        refine lv_iload hx hb dL_comesSo_344 (lv_at hl 5 rfl) ?_
        refine lv_isub hx hb dL_comesSo_346 ?_
        refine lv_icmp_ne (tgt := 411) hx hb dL_comesSo_347 (by decide) (fun c => False.elim (c rfl)) (fun _ => ?_)
        refine lv_aload_n hx hb dL_comesSo_350 rfl (lv_at hl 15 rfl) ?_
        refine lv_iload hx hb dL_comesSo_351 (lv_at hl 1 rfl) ?_
        refine lv_iconst (v := 1) hx hb dL_comesSo_353 (by decide) ?_
        refine xpV (rest := []) ⟨hx, hb, hml, hown, hts⟩ (x_server l G cI cQ d o30 hE_o30 (nI f) 1) (cwV 2 hts gL_comesSo_X4_server rfl rfl rfl cd_X4_server ⟨Nat.le_of_ble_eq_true rfl, Nat.le_of_ble_eq_true rfl⟩) hK hP rfl hl.1 rfl (Nat.le_of_ble_eq_true rfl) dL_comesSo_354 ⟨Nat.le_of_ble_eq_true rfl, Nat.le_of_ble_eq_true rfl⟩ ?_
        refine lv_cvt (y := (nI (loadN AA f))) (by rw [hc_o30]; exact vs1 s9.1 (by rw [s14]; exact s3)) ?_
        refine lv_iload hx hb dL_comesSo_357 (lv_at hl 0 rfl) ?_
        refine lv_icmp_ge (tgt := 411) hx hb dL_comesSo_359 (by decide) (fun c => False.elim (absurd ((nI_leI (by have := load_le w.1 f; omega) (by have := load_le s9.1 f; omega)).mp c) (by omega))) (fun _ => ?_)
        refine lv_aload_n hx hb dL_comesSo_362 rfl (lv_at hl 15 rfl) ?_
        refine lv_iload hx hb dL_comesSo_363 (lv_at hl 7 rfl) ?_
        refine lv_iconst (v := 1) hx hb dL_comesSo_365 (by decide) ?_
        refine xpV (rest := []) ⟨hx, hb, hml, hown, hts⟩ (x_server l G cI cQ d o30 hE_o30 (nI g) 1) (cwV 2 hts gL_comesSo_X4_server rfl rfl rfl cd_X4_server ⟨Nat.le_of_ble_eq_true rfl, Nat.le_of_ble_eq_true rfl⟩) hK hP rfl hl.1 rfl (Nat.le_of_ble_eq_true rfl) dL_comesSo_366 ⟨Nat.le_of_ble_eq_true rfl, Nat.le_of_ble_eq_true rfl⟩ ?_
        refine lv_cvt (y := (nI (loadN AA g))) (by rw [hc_o30]; exact vs1 s9.1 (by rw [s14]; exact s5)) ?_
        refine lv_iload hx hb dL_comesSo_369 (lv_at hl 0 rfl) ?_
        refine lv_icmp_ge (tgt := 411) hx hb dL_comesSo_371 (by decide) (fun c => False.elim (absurd ((nI_leI (by have := load_le w.1 f; omega) (by have := load_le s9.1 g; omega)).mp c) (by omega))) (fun _ => ?_)
        refine lv_iload_n hx hb dL_comesSo_374 rfl (lv_at hl 13 rfl) ?_
        refine lv_bipush (v := 30) hx hb dL_comesSo_375 (by decide) ?_
        refine lv_icmp_eq (tgt := 391) hx hb dL_comesSo_377 (by decide) (fun c => False.elim (absurd ((nI_eq (b := 30) (by omega) (by decide)).mp c) (by omega))) (fun _ => ?_)
        refine lv_aload_n hx hb dL_comesSo_380 rfl (lv_at hl 15 rfl) ?_
        refine lv_iconst (v := 0) hx hb dL_comesSo_381 (by decide) ?_
        refine xmV (rest := []) ⟨hx, hb, hml, hown, hts⟩ (x_plan l G cI cQ d o30 hE_o30 0 _) (cwV 1 hts gL_comesSo_X4_plan rfl rfl rfl cd_X4_plan ⟨Nat.le_of_ble_eq_true rfl, Nat.le_of_ble_eq_true rfl⟩) hK hP hD hS hA rfl hl.1 rfl (Nat.le_of_ble_eq_true rfl) dL_comesSo_382 ⟨Nat.le_of_ble_eq_true rfl, Nat.le_of_ble_eq_true rfl⟩ (fun o31 H locs ho31 hP hD hS => ?_)
        refine lv_cvt (y := (nI (pS AA))) (by rw [hc_o30]; exact pl0 _ _) ?_
        have hq9_o31 := q_plan hE_o30 ho31
        have hE_o31 := hq9_o31.1
        have hh_o31 := hh_q hh_o30 hq9_o31 (by rw [ho31]; rfl)
        refine lv_iload_n hx hb dL_comesSo_385 rfl (lv_at hl 13 rfl) ?_
        refine lv_iconst (v := 1) hx hb dL_comesSo_386 (by decide) ?_
        refine lv_isub hx hb dL_comesSo_387 ?_
        refine lv_icmp_ne (tgt := 411) hx hb dL_comesSo_388 (by decide) (fun c => False.elim (c (by rw [← s17 h30, ← nI_1]; exact (Int32.add_sub_cancel _ _).symm))) (fun _ => ?_)
        refine lv_aload_n hx hb dL_comesSo_391 rfl (lv_at hl 15 rfl) ?_
        refine xmV (rest := []) ⟨hx, hb, hml, hown, hts⟩ (x_undo l G cI cQ d o31 hE_o31  _) (cwV 0 hts gL_comesSo_X4_undo rfl rfl rfl cd_X4_undo ⟨Nat.le_of_ble_eq_true rfl, Nat.le_of_ble_eq_true rfl⟩) hK hP hD hS hA rfl hl.1 rfl (Nat.le_of_ble_eq_true rfl) dL_comesSo_392 ⟨Nat.le_of_ble_eq_true rfl, Nat.le_of_ble_eq_true rfl⟩ (fun o32 H locs ho32 hP hD hS => ?_)
        have hu_o32 := ei_undo hE_o29 hh_o31.1 hh_o31.2 ho32
        have hE_o32 := hu_o32.2.1
        have hc_o32 : eC o32 = eC o := hu_o32.2.2.trans hc_o29
        refine lv_if_lt (tgt := 411) hx hb dL_comesSo_395 (by decide) (fun c => False.elim (hu_o32.1 c)) (fun _ => ?_)
        refine lv_aload_n hx hb dL_comesSo_398 rfl (lv_at hl 15 rfl) ?_
        refine xlS (rest := []) ⟨hx, hb, hml, hown, hts⟩ (c_L_sum l G cI cQ d o32 hE_o32) (cwS 1 hts gL_comesSo_L_sum rfl rfl rfl cd_L_sum ⟨Nat.le_of_ble_eq_true rfl, Nat.le_of_ble_eq_true rfl⟩) hK hP rfl hl.1 rfl (Nat.le_of_ble_eq_true rfl) dL_comesSo_399 ⟨Nat.le_of_ble_eq_true rfl, Nat.le_of_ble_eq_true rfl⟩ ?_
        refine lv_lload_n hx hb dL_comesSo_402 rfl (lv_at hl 14 rfl) ?_
        refine W.lcmp hx hb dL_comesSo_403 ?_
        refine lv_cvt (y := 0) (by rw [hc_o32]; exact lcmp_eq _) ?_
        refine lv_if_ne (tgt := 411) hx hb dL_comesSo_404 (by decide) (fun c => False.elim (c rfl)) (fun _ => ?_)
        refine lv_iconst (v := 1) hx hb dL_comesSo_407 (by decide) ?_
        refine lv_goto (tgt := 412) hx hb dL_comesSo_408 (by decide) ?_
        refine lv_istore (lv' := [(14, .int 1), (16, .int (nI (loadN (eC o) f))), (15, .int (nI f)), (13, .int (kmo (eC o))), (12, .int (kbu (eC o))), (11, .int (kSprice Y)), (10, .int (kSother Y)), (9, .int (nI g)), (8, .int (nI j)), (7, .int (if pEven (pD (eC o)) then (1 : Int32) else 0)), (6, .int (nI (gtN (pD (eC o))))), (5, .int (kbu (eC o) - kbu (pD (eC o)))), (4, .int (nI mm)), (3, .int (nI (pS (eC o)))), (1, .long (sumF (eC o))), (0, .ref (adE d))]) hx hb dL_comesSo_412 hl (by decide) rfl (fun ls hl => ?_)
        refine lv_iload hx hb dL_comesSo_414 (lv_at hl 0 rfl) ?_
        refine lv_if_eq (tgt := 470) hx hb dL_comesSo_416 (by decide) (fun c => absurd c (by decide)) (fun _ => ?_)
        refine lv_iload hx hb dL_comesSo_419 (lv_at hl 6 rfl) ?_
        refine lv_bipush (v := (-9)) hx hb dL_comesSo_421 (by decide) ?_
        refine lv_icmp_ne (tgt := 437) hx hb dL_comesSo_423 (by decide) (fun c => False.elim (c t1)) (fun _ => ?_)
        refine lv_aload_n hx hb dL_comesSo_426 rfl (lv_at hl 15 rfl) ?_
        refine lv_iload hx hb dL_comesSo_427 (lv_at hl 8 rfl) ?_
        refine lv_iload hx hb dL_comesSo_429 (lv_at hl 7 rfl) ?_
        refine xmV (rest := []) ⟨hx, hb, hml, hown, hts⟩ (x_move l G cI cQ d o32 hE_o32 (nI j) (nI g) _) (cwV 2 hts gL_comesSo_X4_move rfl rfl rfl cd_X4_move ⟨Nat.le_of_ble_eq_true rfl, Nat.le_of_ble_eq_true rfl⟩) hK hP hD hS hA rfl hl.1 rfl (Nat.le_of_ble_eq_true rfl) dL_comesSo_431 ⟨Nat.le_of_ble_eq_true rfl, Nat.le_of_ble_eq_true rfl⟩ (fun o33 H locs ho33 hP hD hS => ?_)
        have hr_o33 : (fMove (eC o32) (nI j) (nI g)) = (nI (gtN AA), AA) := by rw [hc_o32]; exact t2
        have hE_o33 : EI o33 := ei_act hE_o32 (by rw [hr_o33]; exact s9) ho33
        have hc_o33 : eC o33 = AA := by rw [ho33]; exact congrArg Prod.snd hr_o33
        have hh_o33 := hh_act (o := o32) (by rw [hr_o33]; exact nI_pos (by have := gt_le s9.1; omega)) ho33
        refine lv_cvt (y := nI (gtN AA)) (congrArg Prod.fst hr_o33) ?_
        refine lv_goto (tgt := 445) hx hb dL_comesSo_434 (by decide) ?_
        refine lv_iload hx hb dL_comesSo_445 (lv_at hl 1 rfl) ?_
        refine lv_icmp_gt (tgt := 470) hx hb dL_comesSo_447 (by decide) (fun c => False.elim (absurd ((nI_ltI (by have := load_le w.1 f; omega) (by have := gt_le s9.1; omega)).mp c) (by omega))) (fun _ => ?_)
        refine lv_aload_n hx hb dL_comesSo_450 rfl (lv_at hl 15 rfl) ?_
        refine xmV (rest := []) ⟨hx, hb, hml, hown, hts⟩ (x_undo l G cI cQ d o33 hE_o33  _) (cwV 0 hts gL_comesSo_X4_undo rfl rfl rfl cd_X4_undo ⟨Nat.le_of_ble_eq_true rfl, Nat.le_of_ble_eq_true rfl⟩) hK hP hD hS hA rfl hl.1 rfl (Nat.le_of_ble_eq_true rfl) dL_comesSo_451 ⟨Nat.le_of_ble_eq_true rfl, Nat.le_of_ble_eq_true rfl⟩ (fun o34 H locs ho34 hP hD hS => ?_)
        have hu_o34 := ei_undo hE_o32 hh_o33.1 hh_o33.2 ho34
        have hE_o34 := hu_o34.2.1
        have hc_o34 : eC o34 = eC o := hu_o34.2.2.trans hc_o32
        refine lv_if_lt (tgt := 470) hx hb dL_comesSo_454 (by decide) (fun c => False.elim (hu_o34.1 c)) (fun _ => ?_)
        refine lv_aload_n hx hb dL_comesSo_457 rfl (lv_at hl 15 rfl) ?_
        refine xlS (rest := []) ⟨hx, hb, hml, hown, hts⟩ (c_L_sum l G cI cQ d o34 hE_o34) (cwS 1 hts gL_comesSo_L_sum rfl rfl rfl cd_L_sum ⟨Nat.le_of_ble_eq_true rfl, Nat.le_of_ble_eq_true rfl⟩) hK hP rfl hl.1 rfl (Nat.le_of_ble_eq_true rfl) dL_comesSo_458 ⟨Nat.le_of_ble_eq_true rfl, Nat.le_of_ble_eq_true rfl⟩ ?_
        refine lv_lload_n hx hb dL_comesSo_461 rfl (lv_at hl 14 rfl) ?_
        refine W.lcmp hx hb dL_comesSo_462 ?_
        refine lv_cvt (y := 0) (by rw [hc_o34]; exact lcmp_eq _) ?_
        refine lv_if_ne (tgt := 470) hx hb dL_comesSo_463 (by decide) (fun c => False.elim (c rfl)) (fun _ => ?_)
        refine lv_iconst (v := 1) hx hb dL_comesSo_466 (by decide) ?_
        refine lv_goto (tgt := 471) hx hb dL_comesSo_467 (by decide) ?_
        refine lv_istore (lv' := [(14, .int 1), (16, .int (nI (loadN (eC o) f))), (15, .int (nI f)), (13, .int (kmo (eC o))), (12, .int (kbu (eC o))), (11, .int (kSprice Y)), (10, .int (kSother Y)), (9, .int (nI g)), (8, .int (nI j)), (7, .int (if pEven (pD (eC o)) then (1 : Int32) else 0)), (6, .int (nI (gtN (pD (eC o))))), (5, .int (kbu (eC o) - kbu (pD (eC o)))), (4, .int (nI mm)), (3, .int (nI (pS (eC o)))), (1, .long (sumF (eC o))), (0, .ref (adE d))]) hx hb dL_comesSo_471 hl (by decide) rfl (fun ls hl => ?_)
        refine lv_iload hx hb dL_comesSo_473 (lv_at hl 0 rfl) ?_
        exact m_ret (ty := .boolean) o34 hx hb hr hlocks rfl ⟨rfl, ⟨hE_o34, hc_o34⟩⟩ hP hD hS dL_comesSo_475
      · skip
        refine lv_icmp_eq (tgt := 336) hx hb dL_comesSo_321 (by decide) (fun c => False.elim (ne9 (by omega) (t2.symm.trans c))) (fun _ => ?_)
        rw [t2] at hl
        refine lv_aload_n hx hb dL_comesSo_324 rfl (lv_at hl 15 rfl) ?_
        refine lv_iload hx hb dL_comesSo_325 (lv_at hl 6 rfl) ?_
        refine lv_iconst (v := 2) hx hb dL_comesSo_327 (by decide) ?_
        refine xpV (rest := []) ⟨hx, hb, hml, hown, hts⟩ (x_job l G cI cQ d o30 hE_o30 (nI i) 2) (cwV 2 hts gL_comesSo_X4_job rfl rfl rfl cd_X4_job ⟨Nat.le_of_ble_eq_true rfl, Nat.le_of_ble_eq_true rfl⟩) hK hP rfl hl.1 rfl (Nat.le_of_ble_eq_true rfl) dL_comesSo_328 ⟨Nat.le_of_ble_eq_true rfl, Nat.le_of_ble_eq_true rfl⟩ ?_
        refine lv_cvt (y := (nI f)) (by rw [hc_o30]; exact (vj2 s9.1 (by rw [s15]; exact t1)).trans ((cpk s9.1 (by rw [s15]; exact t1) (by omega)).mpr t3)) ?_
        refine lv_iload hx hb dL_comesSo_331 (lv_at hl 1 rfl) ?_
        refine lv_icmp_ne (tgt := 411) hx hb dL_comesSo_333 (by decide) (fun c => False.elim (c rfl)) (fun _ => ?_)
        refine lv_aload_n hx hb dL_comesSo_336 rfl (lv_at hl 15 rfl) ?_
        refine lv_bipush (v := 10) hx hb dL_comesSo_337 (by decide) ?_
        refine xpV (rest := []) ⟨hx, hb, hml, hown, hts⟩ (x_count l G cI cQ d o30 hE_o30 10) (cwV 1 hts gL_comesSo_X4_count rfl rfl rfl cd_X4_count ⟨Nat.le_of_ble_eq_true rfl, Nat.le_of_ble_eq_true rfl⟩) hK hP rfl hl.1 rfl (Nat.le_of_ble_eq_true rfl) dL_comesSo_339 ⟨Nat.le_of_ble_eq_true rfl, Nat.le_of_ble_eq_true rfl⟩ ?_
        refine lv_cvt (y := (kbu (eC o) - (kSprice Y))) (by rw [hc_o30]; exact s10) ?_
        refine lv_iload hx hb dL_comesSo_342 (lv_at hl 4 rfl) ?_
        refine lv_iload hx hb dL_comesSo_344 (lv_at hl 5 rfl) ?_
        refine lv_isub hx hb dL_comesSo_346 ?_
        refine lv_icmp_ne (tgt := 411) hx hb dL_comesSo_347 (by decide) (fun c => False.elim (c rfl)) (fun _ => ?_)
        refine lv_aload_n hx hb dL_comesSo_350 rfl (lv_at hl 15 rfl) ?_
        refine lv_iload hx hb dL_comesSo_351 (lv_at hl 1 rfl) ?_
        refine lv_iconst (v := 1) hx hb dL_comesSo_353 (by decide) ?_
        refine xpV (rest := []) ⟨hx, hb, hml, hown, hts⟩ (x_server l G cI cQ d o30 hE_o30 (nI f) 1) (cwV 2 hts gL_comesSo_X4_server rfl rfl rfl cd_X4_server ⟨Nat.le_of_ble_eq_true rfl, Nat.le_of_ble_eq_true rfl⟩) hK hP rfl hl.1 rfl (Nat.le_of_ble_eq_true rfl) dL_comesSo_354 ⟨Nat.le_of_ble_eq_true rfl, Nat.le_of_ble_eq_true rfl⟩ ?_
        refine lv_cvt (y := (nI (loadN AA f))) (by rw [hc_o30]; exact vs1 s9.1 (by rw [s14]; exact s3)) ?_
        refine lv_iload hx hb dL_comesSo_357 (lv_at hl 0 rfl) ?_
        refine lv_icmp_ge (tgt := 411) hx hb dL_comesSo_359 (by decide) (fun c => False.elim (absurd ((nI_leI (by have := load_le w.1 f; omega) (by have := load_le s9.1 f; omega)).mp c) (by omega))) (fun _ => ?_)
        refine lv_aload_n hx hb dL_comesSo_362 rfl (lv_at hl 15 rfl) ?_
        refine lv_iload hx hb dL_comesSo_363 (lv_at hl 7 rfl) ?_
        refine lv_iconst (v := 1) hx hb dL_comesSo_365 (by decide) ?_
        refine xpV (rest := []) ⟨hx, hb, hml, hown, hts⟩ (x_server l G cI cQ d o30 hE_o30 (nI g) 1) (cwV 2 hts gL_comesSo_X4_server rfl rfl rfl cd_X4_server ⟨Nat.le_of_ble_eq_true rfl, Nat.le_of_ble_eq_true rfl⟩) hK hP rfl hl.1 rfl (Nat.le_of_ble_eq_true rfl) dL_comesSo_366 ⟨Nat.le_of_ble_eq_true rfl, Nat.le_of_ble_eq_true rfl⟩ ?_
        refine lv_cvt (y := (nI (loadN AA g))) (by rw [hc_o30]; exact vs1 s9.1 (by rw [s14]; exact s5)) ?_
        refine lv_iload hx hb dL_comesSo_369 (lv_at hl 0 rfl) ?_
        refine lv_icmp_ge (tgt := 411) hx hb dL_comesSo_371 (by decide) (fun c => False.elim (absurd ((nI_leI (by have := load_le w.1 f; omega) (by have := load_le s9.1 g; omega)).mp c) (by omega))) (fun _ => ?_)
        refine lv_iload_n hx hb dL_comesSo_374 rfl (lv_at hl 13 rfl) ?_
        refine lv_bipush (v := 30) hx hb dL_comesSo_375 (by decide) ?_
        refine lv_icmp_eq (tgt := 391) hx hb dL_comesSo_377 (by decide) (fun c => False.elim (absurd ((nI_eq (b := 30) (by omega) (by decide)).mp c) (by omega))) (fun _ => ?_)
        refine lv_aload_n hx hb dL_comesSo_380 rfl (lv_at hl 15 rfl) ?_
        refine lv_iconst (v := 0) hx hb dL_comesSo_381 (by decide) ?_
        refine xmV (rest := []) ⟨hx, hb, hml, hown, hts⟩ (x_plan l G cI cQ d o30 hE_o30 0 _) (cwV 1 hts gL_comesSo_X4_plan rfl rfl rfl cd_X4_plan ⟨Nat.le_of_ble_eq_true rfl, Nat.le_of_ble_eq_true rfl⟩) hK hP hD hS hA rfl hl.1 rfl (Nat.le_of_ble_eq_true rfl) dL_comesSo_382 ⟨Nat.le_of_ble_eq_true rfl, Nat.le_of_ble_eq_true rfl⟩ (fun o35 H locs ho35 hP hD hS => ?_)
        refine lv_cvt (y := (nI (pS AA))) (by rw [hc_o30]; exact pl0 _ _) ?_
        have hq9_o35 := q_plan hE_o30 ho35
        have hE_o35 := hq9_o35.1
        have hh_o35 := hh_q hh_o30 hq9_o35 (by rw [ho35]; rfl)
        refine lv_iload_n hx hb dL_comesSo_385 rfl (lv_at hl 13 rfl) ?_
        refine lv_iconst (v := 1) hx hb dL_comesSo_386 (by decide) ?_
        refine lv_isub hx hb dL_comesSo_387 ?_
        refine lv_icmp_ne (tgt := 411) hx hb dL_comesSo_388 (by decide) (fun c => False.elim (c (by rw [← s17 h30, ← nI_1]; exact (Int32.add_sub_cancel _ _).symm))) (fun _ => ?_)
        refine lv_aload_n hx hb dL_comesSo_391 rfl (lv_at hl 15 rfl) ?_
        refine xmV (rest := []) ⟨hx, hb, hml, hown, hts⟩ (x_undo l G cI cQ d o35 hE_o35  _) (cwV 0 hts gL_comesSo_X4_undo rfl rfl rfl cd_X4_undo ⟨Nat.le_of_ble_eq_true rfl, Nat.le_of_ble_eq_true rfl⟩) hK hP hD hS hA rfl hl.1 rfl (Nat.le_of_ble_eq_true rfl) dL_comesSo_392 ⟨Nat.le_of_ble_eq_true rfl, Nat.le_of_ble_eq_true rfl⟩ (fun o36 H locs ho36 hP hD hS => ?_)
        have hu_o36 := ei_undo hE_o29 hh_o35.1 hh_o35.2 ho36
        have hE_o36 := hu_o36.2.1
        have hc_o36 : eC o36 = eC o := hu_o36.2.2.trans hc_o29
        refine lv_if_lt (tgt := 411) hx hb dL_comesSo_395 (by decide) (fun c => False.elim (hu_o36.1 c)) (fun _ => ?_)
        refine lv_aload_n hx hb dL_comesSo_398 rfl (lv_at hl 15 rfl) ?_
        refine xlS (rest := []) ⟨hx, hb, hml, hown, hts⟩ (c_L_sum l G cI cQ d o36 hE_o36) (cwS 1 hts gL_comesSo_L_sum rfl rfl rfl cd_L_sum ⟨Nat.le_of_ble_eq_true rfl, Nat.le_of_ble_eq_true rfl⟩) hK hP rfl hl.1 rfl (Nat.le_of_ble_eq_true rfl) dL_comesSo_399 ⟨Nat.le_of_ble_eq_true rfl, Nat.le_of_ble_eq_true rfl⟩ ?_
        refine lv_lload_n hx hb dL_comesSo_402 rfl (lv_at hl 14 rfl) ?_
        refine W.lcmp hx hb dL_comesSo_403 ?_
        refine lv_cvt (y := 0) (by rw [hc_o36]; exact lcmp_eq _) ?_
        refine lv_if_ne (tgt := 411) hx hb dL_comesSo_404 (by decide) (fun c => False.elim (c rfl)) (fun _ => ?_)
        refine lv_iconst (v := 1) hx hb dL_comesSo_407 (by decide) ?_
        refine lv_goto (tgt := 412) hx hb dL_comesSo_408 (by decide) ?_
        refine lv_istore (lv' := [(14, .int 1), (16, .int (nI (loadN (eC o) f))), (15, .int (nI f)), (13, .int (kmo (eC o))), (12, .int (kbu (eC o))), (11, .int (kSprice Y)), (10, .int (nI i)), (9, .int (nI g)), (8, .int (nI j)), (7, .int (if pEven (pD (eC o)) then (1 : Int32) else 0)), (6, .int (nI (gtN (pD (eC o))))), (5, .int (kbu (eC o) - kbu (pD (eC o)))), (4, .int (nI mm)), (3, .int (nI (pS (eC o)))), (1, .long (sumF (eC o))), (0, .ref (adE d))]) hx hb dL_comesSo_412 hl (by decide) rfl (fun ls hl => ?_)
        refine lv_iload hx hb dL_comesSo_414 (lv_at hl 0 rfl) ?_
        refine lv_if_eq (tgt := 470) hx hb dL_comesSo_416 (by decide) (fun c => absurd c (by decide)) (fun _ => ?_)
        refine lv_iload hx hb dL_comesSo_419 (lv_at hl 6 rfl) ?_
        refine lv_bipush (v := (-9)) hx hb dL_comesSo_421 (by decide) ?_
        refine lv_icmp_ne (tgt := 437) hx hb dL_comesSo_423 (by decide) (fun _ => ?_) (fun c => False.elim (ne9 (by omega) c))
        refine lv_aload_n hx hb dL_comesSo_437 rfl (lv_at hl 15 rfl) ?_
        refine lv_iload hx hb dL_comesSo_438 (lv_at hl 8 rfl) ?_
        refine lv_iload hx hb dL_comesSo_440 (lv_at hl 6 rfl) ?_
        refine xmV (rest := []) ⟨hx, hb, hml, hown, hts⟩ (x_exchange l G cI cQ d o36 hE_o36 (nI j) (nI i) _) (cwV 2 hts gL_comesSo_X4_exchange rfl rfl rfl cd_X4_exchange ⟨Nat.le_of_ble_eq_true rfl, Nat.le_of_ble_eq_true rfl⟩) hK hP hD hS hA rfl hl.1 rfl (Nat.le_of_ble_eq_true rfl) dL_comesSo_442 ⟨Nat.le_of_ble_eq_true rfl, Nat.le_of_ble_eq_true rfl⟩ (fun o37 H locs ho37 hP hD hS => ?_)
        have hr_o37 : (fExch (eC o36) (nI j) (nI i)) = (nI (gtN AA), AA) := by rw [hc_o36]; exact t4
        have hE_o37 : EI o37 := ei_act hE_o36 (by rw [hr_o37]; exact s9) ho37
        have hc_o37 : eC o37 = AA := by rw [ho37]; exact congrArg Prod.snd hr_o37
        have hh_o37 := hh_act (o := o36) (by rw [hr_o37]; exact nI_pos (by have := gt_le s9.1; omega)) ho37
        refine lv_cvt (y := nI (gtN AA)) (congrArg Prod.fst hr_o37) ?_
        refine lv_iload hx hb dL_comesSo_445 (lv_at hl 1 rfl) ?_
        refine lv_icmp_gt (tgt := 470) hx hb dL_comesSo_447 (by decide) (fun c => False.elim (absurd ((nI_ltI (by have := load_le w.1 f; omega) (by have := gt_le s9.1; omega)).mp c) (by omega))) (fun _ => ?_)
        refine lv_aload_n hx hb dL_comesSo_450 rfl (lv_at hl 15 rfl) ?_
        refine xmV (rest := []) ⟨hx, hb, hml, hown, hts⟩ (x_undo l G cI cQ d o37 hE_o37  _) (cwV 0 hts gL_comesSo_X4_undo rfl rfl rfl cd_X4_undo ⟨Nat.le_of_ble_eq_true rfl, Nat.le_of_ble_eq_true rfl⟩) hK hP hD hS hA rfl hl.1 rfl (Nat.le_of_ble_eq_true rfl) dL_comesSo_451 ⟨Nat.le_of_ble_eq_true rfl, Nat.le_of_ble_eq_true rfl⟩ (fun o38 H locs ho38 hP hD hS => ?_)
        have hu_o38 := ei_undo hE_o36 hh_o37.1 hh_o37.2 ho38
        have hE_o38 := hu_o38.2.1
        have hc_o38 : eC o38 = eC o := hu_o38.2.2.trans hc_o36
        refine lv_if_lt (tgt := 470) hx hb dL_comesSo_454 (by decide) (fun c => False.elim (hu_o38.1 c)) (fun _ => ?_)
        refine lv_aload_n hx hb dL_comesSo_457 rfl (lv_at hl 15 rfl) ?_
        refine xlS (rest := []) ⟨hx, hb, hml, hown, hts⟩ (c_L_sum l G cI cQ d o38 hE_o38) (cwS 1 hts gL_comesSo_L_sum rfl rfl rfl cd_L_sum ⟨Nat.le_of_ble_eq_true rfl, Nat.le_of_ble_eq_true rfl⟩) hK hP rfl hl.1 rfl (Nat.le_of_ble_eq_true rfl) dL_comesSo_458 ⟨Nat.le_of_ble_eq_true rfl, Nat.le_of_ble_eq_true rfl⟩ ?_
        refine lv_lload_n hx hb dL_comesSo_461 rfl (lv_at hl 14 rfl) ?_
        refine W.lcmp hx hb dL_comesSo_462 ?_
        refine lv_cvt (y := 0) (by rw [hc_o38]; exact lcmp_eq _) ?_
        refine lv_if_ne (tgt := 470) hx hb dL_comesSo_463 (by decide) (fun c => False.elim (c rfl)) (fun _ => ?_)
        refine lv_iconst (v := 1) hx hb dL_comesSo_466 (by decide) ?_
        refine lv_goto (tgt := 471) hx hb dL_comesSo_467 (by decide) ?_
        refine lv_istore (lv' := [(14, .int 1), (16, .int (nI (loadN (eC o) f))), (15, .int (nI f)), (13, .int (kmo (eC o))), (12, .int (kbu (eC o))), (11, .int (kSprice Y)), (10, .int (nI i)), (9, .int (nI g)), (8, .int (nI j)), (7, .int (if pEven (pD (eC o)) then (1 : Int32) else 0)), (6, .int (nI (gtN (pD (eC o))))), (5, .int (kbu (eC o) - kbu (pD (eC o)))), (4, .int (nI mm)), (3, .int (nI (pS (eC o)))), (1, .long (sumF (eC o))), (0, .ref (adE d))]) hx hb dL_comesSo_471 hl (by decide) rfl (fun ls hl => ?_)
        refine lv_iload hx hb dL_comesSo_473 (lv_at hl 0 rfl) ?_
        exact m_ret (ty := .boolean) o38 hx hb hr hlocks rfl ⟨rfl, ⟨hE_o38, hc_o38⟩⟩ hP hD hS dL_comesSo_475
theorem cd_L_comesSo : yL_comesSo.cls = RL ∧ yL_comesSo.cls ≠ "java/lang/invoke/MethodHandle" ∧ yL_comesSo.cls ≠ "java/lang/invoke/VarHandle" ∧ (parseMethodDescriptor yL_comesSo.desc).map (fun d => d.parameters.length) = some 1 := by decide +kernel
