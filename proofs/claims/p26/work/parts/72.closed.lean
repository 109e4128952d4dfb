theorem lk_L_low_1 : Cond.constant RL 8 (2147483647) ∈ wsL_low := List.mem_of_getElem? (i := 1) (by decide +kernel)
set_option maxHeartbeats 4000000 in
set_option maxRecDepth 100000 in
theorem c_L_low (l : Launch) (G : va_G) (cI cQ : ClassId) (d : AD) (v : Int32) (k : Nat) (h0 : 0 < k) (hk : k < 2 ^ 31) : Met l yL_low wsL_low ({ frames := 0, cells := 0, slots := 0, locals := 0 } : Room) (pPc G cI cQ [.int v, .int (nI k)] []) (vp_Si (fun r => ∃ j : Nat, j < k ∧ r = nI j)) 0 0 (fun _ => False) := by
  refine pm_ofQ (cc := cL_low) (maxL := 2) (ret := (some .int)) (own := RL) (by decide) rfl rfl (Nat.le_of_ble_eq_true rfl) rfl ?_
  intro p e s m below meth cd ls hx hb hr hts hown hlocks hml hK hP hl
  refine lv_iload_n hx hb dL_low_0 rfl (lv_at hl 0 rfl) ?_
  refine lv_ldc (v := 2147483647) hx hb hown (hts _ lk_L_low_1) dL_low_1 ?_
  refine lv_iand hx hb dL_low_3 ?_
  refine lv_iload_n hx hb dL_low_4 rfl (lv_at hl 1 rfl) ?_
  refine lv_irem hx hb dL_low_5 (nI_ne0 h0 hk) ?_
  exact W.zret hx hb hr rfl (fun t ht _ => ⟨_, rfl, ⟨_, Nat.mod_lt _ h0, by rw [pk_and v 31 (by decide), pk_rem (Nat.mod_lt _ (by decide)) h0 hk]⟩, ht⟩) (fun q h => by cases h) dL_low_6 hlocks
theorem cd_L_low : yL_low.cls = RL ∧ yL_low.cls ≠ "java/lang/invoke/MethodHandle" ∧ yL_low.cls ≠ "java/lang/invoke/VarHandle" ∧ (parseMethodDescriptor yL_low.desc).map (fun d => d.parameters.length) = some 2 := by decide +kernel
set_option maxHeartbeats 4000000 in
set_option maxRecDepth 100000 in
theorem c_L_isClosed (l : Launch) (G : va_G) (cI cQ : ClassId) (d : AD) (o : ES) (hE : EI o) (k : Nat) (hk : k < knv (eC o)) (sz0 : Nat) : Met l yL_isClosed wsL_isClosed ({ frames := 7, cells := 0, slots := 0, locals := 186 } : Room) (mPc G cI cQ [.ref (adE d), .int (nI k)] (XW cI cQ d o) sz0) (va_Qi (fun (r : Int32) (u : ES) => r = 1 ∧ (EI u ∧ eC u = eC o)) (mB G (va_A (XW cI cQ d o) sz0) (XW cI cQ d)) (va_A (XW cI cQ d o) sz0)) 0 0 (va_A (XW cI cQ d o) sz0) := by
  refine mm_of (cc := cL_isClosed) (maxL := 9) (ret := (some .boolean)) (own := RL) (by decide) rfl rfl (Nat.le_of_ble_eq_true rfl) rfl ?_
  intro p e s m below meth cd ls A hx hb hr hts hown hlocks hml hA hK hP hD hS hl
  have w := hE.1
  have k6 := ci_v w.1 hk
  have hj24 := ci_nj w.1
  have hv6 := ci_nv w.1
  have hq_o := q_rf hE
  have ol := op_le (eC o)
  have ml := many_le (eC o) k
  have prl := pr_le w.1 k
  revert hP hD hS
  suffices hall : ∀ (H : Heap) (locs : List Loc), va_P G vwCl (XW cI cQ d o) H → va_D A (XW cI cQ d o) → va_S A s.heap H locs → W p l e ({ frames := 7, cells := 0, slots := 0, locals := 186 } : Room) s m ([.ref (adE d), .int (nI k)] : List Value).toArray below meth cd H locs 0 0 (MQ below (va_Qi (fun (r : Int32) (u : ES) => r = 1 ∧ (EI u ∧ eC u = eC o)) (mB G (A) (XW cI cQ d)) (A)) ([.ref (adE d), .int (nI k)] : List Value).toArray s 0 0 A) (F0 m 0 ls []) from fun hP hD hS => hall _ _ hP hD hS
  intro H locs hP hD hS
  refine lv_aload_n hx hb dL_isClosed_0 rfl (lv_at hl 0 rfl) ?_
  refine lv_iload_n hx hb dL_isClosed_1 rfl (lv_at hl 1 rfl) ?_
  refine xmV (rest := []) ⟨hx, hb, hml, hown, hts⟩ (x_without l G cI cQ d o hE (nI k) _) (cwV 1 hts gL_isClosed_X4_without rfl rfl rfl cd_X4_without ⟨Nat.le_of_ble_eq_true rfl, Nat.le_of_ble_eq_true rfl⟩) hK hP hD hS hA rfl hl.1 rfl (Nat.le_of_ble_eq_true rfl) dL_isClosed_2 ⟨Nat.le_of_ble_eq_true rfl, Nat.le_of_ble_eq_true rfl⟩ (fun o1 H locs ho1 hP hD hS => ?_)
  have hq_o1 : qE o o1 := q_tr hq_o (q_wo hE ho1)
  have hE_o1 := hq_o1.1
  rcases wo_sp w hk with ⟨g | g, ew, ec⟩ | ⟨g1, g2, ew, g3, ec⟩ | ⟨g1, g2, ew, g3, ec, wc, cnv, cmo, cbu, cnk, cl0⟩
  · skip
    refine lv_cvt (y := (-2)) (ew) ?_
    refine lv_istore_n (lv' := [(2, .int (-2)), (0, .ref (adE d)), (1, .int (nI k))]) hx hb dL_isClosed_5 rfl hl (by decide) rfl (fun ls hl => ?_)
    refine lv_aload_n hx hb dL_isClosed_6 rfl (lv_at hl 1 rfl) ?_
    refine lv_iload_n hx hb dL_isClosed_7 rfl (lv_at hl 2 rfl) ?_
    refine lv_iconst (v := 0) hx hb dL_isClosed_8 (by decide) ?_
    refine xpV (rest := []) ⟨hx, hb, hml, hown, hts⟩ (x_server l G cI cQ d o1 hE_o1 (nI k) 0) (cwV 2 hts gL_isClosed_X4_server rfl rfl rfl cd_X4_server ⟨Nat.le_of_ble_eq_true rfl, Nat.le_of_ble_eq_true rfl⟩) hK hP rfl hl.1 rfl (Nat.le_of_ble_eq_true rfl) dL_isClosed_9 ⟨Nat.le_of_ble_eq_true rfl, Nat.le_of_ble_eq_true rfl⟩ ?_
    refine lv_cvt (y := 0) (by rw [hq_o1.2.1]; exact (vs0 w.1 hk).trans (congrArg nI (if_neg g))) ?_
    refine lv_if_eq (tgt := 24) hx hb dL_isClosed_12 (by decide) (fun _ => ?_) (fun c => False.elim (c rfl))
    refine lv_iload_n hx hb dL_isClosed_24 rfl (lv_at hl 0 rfl) ?_
    refine lv_bipush (v := (-2)) hx hb dL_isClosed_25 (by decide) ?_
    refine lv_icmp_ne (tgt := 44) hx hb dL_isClosed_27 (by decide) (fun c => absurd c (by decide)) (fun _ => ?_)
    refine lv_aload_n hx hb dL_isClosed_30 rfl (lv_at hl 1 rfl) ?_
    refine lv_iload_n hx hb dL_isClosed_31 rfl (lv_at hl 2 rfl) ?_
    refine xmV (rest := []) ⟨hx, hb, hml, hown, hts⟩ (x_close l G cI cQ d o1 hE_o1 (nI k) _) (cwV 1 hts gL_isClosed_X4_close rfl rfl rfl cd_X4_close ⟨Nat.le_of_ble_eq_true rfl, Nat.le_of_ble_eq_true rfl⟩) hK hP hD hS hA rfl hl.1 rfl (Nat.le_of_ble_eq_true rfl) dL_isClosed_32 ⟨Nat.le_of_ble_eq_true rfl, Nat.le_of_ble_eq_true rfl⟩ (fun o2 H locs ho2 hP hD hS => ?_)
    have hr_o2 : (fClose (eC o1) (nI k)) = (-2, eC o1) := by rw [hq_o1.2.1]; exact ec
    have hq_o2 : qE o1 o2 := q_act hE_o1 hr_o2 (by decide) ho2
    have hE_o2 := hq_o2.1
    have hc_o2 : eC o2 = eC o := hq_o2.2.1.trans hq_o1.2.1
    refine lv_cvt (y := -2) (congrArg Prod.fst hr_o2) ?_
    refine lv_bipush (v := (-2)) hx hb dL_isClosed_35 (by decide) ?_
    refine lv_icmp_ne (tgt := 44) hx hb dL_isClosed_37 (by decide) (fun c => absurd c (by decide)) (fun _ => ?_)
    refine lv_iconst (v := 1) hx hb dL_isClosed_40 (by decide) ?_
    refine lv_goto (tgt := 45) hx hb dL_isClosed_41 (by decide) ?_
    exact m_ret (ty := .boolean) o2 hx hb hr hlocks rfl ⟨rfl, ⟨hE_o2, hc_o2⟩⟩ hP hD hS dL_isClosed_45
  · skip
    refine lv_cvt (y := (-2)) (ew) ?_
    refine lv_istore_n (lv' := [(2, .int (-2)), (0, .ref (adE d)), (1, .int (nI k))]) hx hb dL_isClosed_5 rfl hl (by decide) rfl (fun ls hl => ?_)
    refine lv_aload_n hx hb dL_isClosed_6 rfl (lv_at hl 1 rfl) ?_
    refine lv_iload_n hx hb dL_isClosed_7 rfl (lv_at hl 2 rfl) ?_
    refine lv_iconst (v := 0) hx hb dL_isClosed_8 (by decide) ?_
    refine xpV (rest := []) ⟨hx, hb, hml, hown, hts⟩ (x_server l G cI cQ d o1 hE_o1 (nI k) 0) (cwV 2 hts gL_isClosed_X4_server rfl rfl rfl cd_X4_server ⟨Nat.le_of_ble_eq_true rfl, Nat.le_of_ble_eq_true rfl⟩) hK hP rfl hl.1 rfl (Nat.le_of_ble_eq_true rfl) dL_isClosed_9 ⟨Nat.le_of_ble_eq_true rfl, Nat.le_of_ble_eq_true rfl⟩ ?_
    refine lv_cvt (y := (nI (oN (eC o) k))) (by rw [hq_o1.2.1]; exact vs0 w.1 hk) ?_
    refine lv_if_eq (tgt := 24) hx hb dL_isClosed_12 (by decide) (fun c12 => ?_) (fun c12 => ?_)
    · skip
      refine lv_iload_n hx hb dL_isClosed_24 rfl (lv_at hl 0 rfl) ?_
      refine lv_bipush (v := (-2)) hx hb dL_isClosed_25 (by decide) ?_
      refine lv_icmp_ne (tgt := 44) hx hb dL_isClosed_27 (by decide) (fun c => absurd c (by decide)) (fun _ => ?_)
      refine lv_aload_n hx hb dL_isClosed_30 rfl (lv_at hl 1 rfl) ?_
      refine lv_iload_n hx hb dL_isClosed_31 rfl (lv_at hl 2 rfl) ?_
      refine xmV (rest := []) ⟨hx, hb, hml, hown, hts⟩ (x_close l G cI cQ d o1 hE_o1 (nI k) _) (cwV 1 hts gL_isClosed_X4_close rfl rfl rfl cd_X4_close ⟨Nat.le_of_ble_eq_true rfl, Nat.le_of_ble_eq_true rfl⟩) hK hP hD hS hA rfl hl.1 rfl (Nat.le_of_ble_eq_true rfl) dL_isClosed_32 ⟨Nat.le_of_ble_eq_true rfl, Nat.le_of_ble_eq_true rfl⟩ (fun o3 H locs ho3 hP hD hS => ?_)
      have hr_o3 : (fClose (eC o1) (nI k)) = (-2, eC o1) := by rw [hq_o1.2.1]; exact ec
      have hq_o3 : qE o1 o3 := q_act hE_o1 hr_o3 (by decide) ho3
      have hE_o3 := hq_o3.1
      have hc_o3 : eC o3 = eC o := hq_o3.2.1.trans hq_o1.2.1
      refine lv_cvt (y := -2) (congrArg Prod.fst hr_o3) ?_
      refine lv_bipush (v := (-2)) hx hb dL_isClosed_35 (by decide) ?_
      refine lv_icmp_ne (tgt := 44) hx hb dL_isClosed_37 (by decide) (fun c => absurd c (by decide)) (fun _ => ?_)
      refine lv_iconst (v := 1) hx hb dL_isClosed_40 (by decide) ?_
      refine lv_goto (tgt := 45) hx hb dL_isClosed_41 (by decide) ?_
      exact m_ret (ty := .boolean) o3 hx hb hr hlocks rfl ⟨rfl, ⟨hE_o3, hc_o3⟩⟩ hP hD hS dL_isClosed_45
    · skip
      refine lv_aload_n hx hb dL_isClosed_15 rfl (lv_at hl 1 rfl) ?_
      refine lv_iconst (v := 1) hx hb dL_isClosed_16 (by decide) ?_
      refine xpV (rest := []) ⟨hx, hb, hml, hown, hts⟩ (x_count l G cI cQ d o1 hE_o1 1) (cwV 1 hts gL_isClosed_X4_count rfl rfl rfl cd_X4_count ⟨Nat.le_of_ble_eq_true rfl, Nat.le_of_ble_eq_true rfl⟩) hK hP rfl hl.1 rfl (Nat.le_of_ble_eq_true rfl) dL_isClosed_17 ⟨Nat.le_of_ble_eq_true rfl, Nat.le_of_ble_eq_true rfl⟩ ?_
      refine lv_cvt (y := 1) (by rw [hq_o1.2.1]; exact (vc1 w.1).trans (congrArg nI g)) ?_
      refine lv_iconst (v := 1) hx hb dL_isClosed_20 (by decide) ?_
      refine lv_icmp_ne (tgt := 46) hx hb dL_isClosed_21 (by decide) (fun c => False.elim (c rfl)) (fun _ => ?_)
      refine lv_iload_n hx hb dL_isClosed_24 rfl (lv_at hl 0 rfl) ?_
      refine lv_bipush (v := (-2)) hx hb dL_isClosed_25 (by decide) ?_
      refine lv_icmp_ne (tgt := 44) hx hb dL_isClosed_27 (by decide) (fun c => absurd c (by decide)) (fun _ => ?_)
      refine lv_aload_n hx hb dL_isClosed_30 rfl (lv_at hl 1 rfl) ?_
      refine lv_iload_n hx hb dL_isClosed_31 rfl (lv_at hl 2 rfl) ?_
      refine xmV (rest := []) ⟨hx, hb, hml, hown, hts⟩ (x_close l G cI cQ d o1 hE_o1 (nI k) _) (cwV 1 hts gL_isClosed_X4_close rfl rfl rfl cd_X4_close ⟨Nat.le_of_ble_eq_true rfl, Nat.le_of_ble_eq_true rfl⟩) hK hP hD hS hA rfl hl.1 rfl (Nat.le_of_ble_eq_true rfl) dL_isClosed_32 ⟨Nat.le_of_ble_eq_true rfl, Nat.le_of_ble_eq_true rfl⟩ (fun o4 H locs ho4 hP hD hS => ?_)
      have hr_o4 : (fClose (eC o1) (nI k)) = (-2, eC o1) := by rw [hq_o1.2.1]; exact ec
      have hq_o4 : qE o1 o4 := q_act hE_o1 hr_o4 (by decide) ho4
      have hE_o4 := hq_o4.1
      have hc_o4 : eC o4 = eC o := hq_o4.2.1.trans hq_o1.2.1
      refine lv_cvt (y := -2) (congrArg Prod.fst hr_o4) ?_
      refine lv_bipush (v := (-2)) hx hb dL_isClosed_35 (by decide) ?_
      refine lv_icmp_ne (tgt := 44) hx hb dL_isClosed_37 (by decide) (fun c => absurd c (by decide)) (fun _ => ?_)
      refine lv_iconst (v := 1) hx hb dL_isClosed_40 (by decide) ?_
      refine lv_goto (tgt := 45) hx hb dL_isClosed_41 (by decide) ?_
      exact m_ret (ty := .boolean) o4 hx hb hr hlocks rfl ⟨rfl, ⟨hE_o4, hc_o4⟩⟩ hP hD hS dL_isClosed_45
  · skip
    refine lv_cvt (y := (nI (gtN (sClose (eC o) (nI k))))) (ew) ?_
    refine lv_istore_n (lv' := [(2, .int (nI (gtN (sClose (eC o) (nI k))))), (0, .ref (adE d)), (1, .int (nI k))]) hx hb dL_isClosed_5 rfl hl (by decide) rfl (fun ls hl => ?_)
    refine lv_aload_n hx hb dL_isClosed_6 rfl (lv_at hl 1 rfl) ?_
    refine lv_iload_n hx hb dL_isClosed_7 rfl (lv_at hl 2 rfl) ?_
    refine lv_iconst (v := 0) hx hb dL_isClosed_8 (by decide) ?_
    refine xpV (rest := []) ⟨hx, hb, hml, hown, hts⟩ (x_server l G cI cQ d o1 hE_o1 (nI k) 0) (cwV 2 hts gL_isClosed_X4_server rfl rfl rfl cd_X4_server ⟨Nat.le_of_ble_eq_true rfl, Nat.le_of_ble_eq_true rfl⟩) hK hP rfl hl.1 rfl (Nat.le_of_ble_eq_true rfl) dL_isClosed_9 ⟨Nat.le_of_ble_eq_true rfl, Nat.le_of_ble_eq_true rfl⟩ ?_
    refine lv_cvt (y := 1) (by rw [hq_o1.2.1]; exact (vs0 w.1 hk).trans (congrArg nI (if_pos g1))) ?_
    refine lv_if_eq (tgt := 24) hx hb dL_isClosed_12 (by decide) (fun c => False.elim (absurd c (by decide))) (fun _ => ?_)
    refine lv_aload_n hx hb dL_isClosed_15 rfl (lv_at hl 1 rfl) ?_
    refine lv_iconst (v := 1) hx hb dL_isClosed_16 (by decide) ?_
    refine xpV (rest := []) ⟨hx, hb, hml, hown, hts⟩ (x_count l G cI cQ d o1 hE_o1 1) (cwV 1 hts gL_isClosed_X4_count rfl rfl rfl cd_X4_count ⟨Nat.le_of_ble_eq_true rfl, Nat.le_of_ble_eq_true rfl⟩) hK hP rfl hl.1 rfl (Nat.le_of_ble_eq_true rfl) dL_isClosed_17 ⟨Nat.le_of_ble_eq_true rfl, Nat.le_of_ble_eq_true rfl⟩ ?_
    refine lv_cvt (y := (nI (opN (eC o)))) (by rw [hq_o1.2.1]; exact vc1 w.1) ?_
    refine lv_iconst (v := 1) hx hb dL_isClosed_20 (by decide) ?_
    refine lv_icmp_ne (tgt := 46) hx hb dL_isClosed_21 (by decide) (fun _ => ?_) (fun c => False.elim (absurd ((nI_eq (b := 1) (by omega) (by decide)).mp c) (by omega)))
    refine lv_aload_n hx hb dL_isClosed_46 rfl (lv_at hl 1 rfl) ?_
    refine xlS (rest := []) ⟨hx, hb, hml, hown, hts⟩ (c_L_sum l G cI cQ d o1 hE_o1) (cwS 1 hts gL_isClosed_L_sum rfl rfl rfl cd_L_sum ⟨Nat.le_of_ble_eq_true rfl, Nat.le_of_ble_eq_true rfl⟩) hK hP rfl hl.1 rfl (Nat.le_of_ble_eq_true rfl) dL_isClosed_47 ⟨Nat.le_of_ble_eq_true rfl, Nat.le_of_ble_eq_true rfl⟩ ?_
    refine lv_lstore_n (lv' := [(3, .long (sumF (eC o1))), (2, .int (nI (gtN (sClose (eC o) (nI k))))), (0, .ref (adE d)), (1, .int (nI k))]) hx hb dL_isClosed_50 rfl hl (by decide) rfl (fun ls hl => ?_)
    refine lv_aload_n hx hb dL_isClosed_51 rfl (lv_at hl 2 rfl) ?_
    refine lv_bipush (v := 10) hx hb dL_isClosed_52 (by decide) ?_
    refine xpV (rest := []) ⟨hx, hb, hml, hown, hts⟩ (x_count l G cI cQ d o1 hE_o1 10) (cwV 1 hts gL_isClosed_X4_count rfl rfl rfl cd_X4_count ⟨Nat.le_of_ble_eq_true rfl, Nat.le_of_ble_eq_true rfl⟩) hK hP rfl hl.1 rfl (Nat.le_of_ble_eq_true rfl) dL_isClosed_54 ⟨Nat.le_of_ble_eq_true rfl, Nat.le_of_ble_eq_true rfl⟩ ?_
    refine lv_cvt (y := (kbu (eC o))) (by rw [hq_o1.2.1]; rfl) ?_
    refine lv_istore (lv' := [(5, .int (kbu (eC o))), (3, .long (sumF (eC o1))), (2, .int (nI (gtN (sClose (eC o) (nI k))))), (0, .ref (adE d)), (1, .int (nI k))]) hx hb dL_isClosed_57 hl (by decide) rfl (fun ls hl => ?_)
    refine lv_aload_n hx hb dL_isClosed_59 rfl (lv_at hl 3 rfl) ?_
    refine lv_iload_n hx hb dL_isClosed_60 rfl (lv_at hl 4 rfl) ?_
    refine lv_iconst (v := 2) hx hb dL_isClosed_61 (by decide) ?_
    refine xpV (rest := []) ⟨hx, hb, hml, hown, hts⟩ (x_server l G cI cQ d o1 hE_o1 (nI k) 2) (cwV 2 hts gL_isClosed_X4_server rfl rfl rfl cd_X4_server ⟨Nat.le_of_ble_eq_true rfl, Nat.le_of_ble_eq_true rfl⟩) hK hP rfl hl.1 rfl (Nat.le_of_ble_eq_true rfl) dL_isClosed_62 ⟨Nat.le_of_ble_eq_true rfl, Nat.le_of_ble_eq_true rfl⟩ ?_
    refine lv_cvt (y := (nI (manyN (eC o) k))) (by rw [hq_o1.2.1]; exact vs2 w.1 hk) ?_
    refine lv_istore (lv' := [(6, .int (nI (manyN (eC o) k))), (5, .int (kbu (eC o))), (3, .long (sumF (eC o1))), (2, .int (nI (gtN (sClose (eC o) (nI k))))), (0, .ref (adE d)), (1, .int (nI k))]) hx hb dL_isClosed_65 hl (by decide) rfl (fun ls hl => ?_)
    refine lv_iconst (v := 0) hx hb dL_isClosed_67 (by decide) ?_
    refine lv_istore (lv' := [(7, .int 0), (6, .int (nI (manyN (eC o) k))), (5, .int (kbu (eC o))), (3, .long (sumF (eC o1))), (2, .int (nI (gtN (sClose (eC o) (nI k))))), (0, .ref (adE d)), (1, .int (nI k))]) hx hb dL_isClosed_68 hl (by decide) rfl (fun ls hl => ?_)
    refine lv_iconst (v := 0) hx hb dL_isClosed_70 (by decide) ?_
    refine lv_istore (lv' := [(8, .int 0), (7, .int 0), (6, .int (nI (manyN (eC o) k))), (5, .int (kbu (eC o))), (3, .long (sumF (eC o1))), (2, .int (nI (gtN (sClose (eC o) (nI k))))), (0, .ref (adE d)), (1, .int (nI k))]) hx hb dL_isClosed_71 hl (by decide) rfl (fun ls hl => ?_)
    have K5 : ∀ (n6 i : Nat), i + n6 = manyN (eC o) k → ∀ (H : Heap) (locs : List Loc), va_P G vwCl (XW cI cQ d o1) H → va_D A (XW cI cQ d o1) → va_S A s.heap H locs → ∀ (ls : Array Slot), lv_has ls 9 [(8, .int (nI i)), (7, .int (nI (su (lwN (eC o) k i (qN (eC o))) (knj (eC o))))), (6, .int (nI (manyN (eC o) k))), (5, .int (kbu (eC o))), (3, .long (sumF (eC o1))), (2, .int (nI (gtN (sClose (eC o) (nI k))))), (0, .ref (adE d)), (1, .int (nI k))] → W p l e ({ frames := 7, cells := 0, slots := 0, locals := 186 } : Room) s m ([.ref (adE d), .int (nI k)] : List Value).toArray below meth cd H locs 0 0 (MQ below (va_Qi (fun (r : Int32) (u : ES) => r = 1 ∧ (EI u ∧ eC u = eC o)) (mB G (A) (XW cI cQ d)) (A)) ([.ref (adE d), .int (nI k)] : List Value).toArray s 0 0 A) (F0 m 73 ls []) := by
      intro n6
      induction n6 with
      | zero =>
        intro i hi_i H locs hP hD hS ls hl
        have e_i : i = manyN (eC o) k := by omega
        subst e_i
        refine lv_iload hx hb dL_isClosed_73 (lv_at hl 0 rfl) ?_
        refine lv_iload hx hb dL_isClosed_75 (lv_at hl 2 rfl) ?_
        refine lv_icmp_ge (tgt := 103) hx hb dL_isClosed_77 (by decide) (fun _ => ?_) (fun c => False.elim (c (Int32.le_refl _)))
        refine lv_iload hx hb dL_isClosed_103 (lv_at hl 1 rfl) ?_
        refine lv_cvt (y := (nI (prN (eC o) k))) (congrArg nI (lw_all k (qN (eC o)))) ?_
        refine lv_iload hx hb dL_isClosed_105 (lv_at hl 3 rfl) ?_
        refine lv_icmp_le (tgt := 135) hx hb dL_isClosed_107 (by decide) (fun c => False.elim (absurd ((bu_le w (by omega)).mp c) (by omega))) (fun _ => ?_)
        refine lv_aload_n hx hb dL_isClosed_110 rfl (lv_at hl 6 rfl) ?_
        refine lv_iload_n hx hb dL_isClosed_111 rfl (lv_at hl 7 rfl) ?_
        refine xmV (rest := []) ⟨hx, hb, hml, hown, hts⟩ (x_close l G cI cQ d o1 hE_o1 (nI k) _) (cwV 1 hts gL_isClosed_X4_close rfl rfl rfl cd_X4_close ⟨Nat.le_of_ble_eq_true rfl, Nat.le_of_ble_eq_true rfl⟩) hK hP hD hS hA rfl hl.1 rfl (Nat.le_of_ble_eq_true rfl) dL_isClosed_112 ⟨Nat.le_of_ble_eq_true rfl, Nat.le_of_ble_eq_true rfl⟩ (fun o7 H locs ho7 hP hD hS => ?_)
        have hr_o7 : (fClose (eC o1) (nI k)) = (-2, eC o1) := by rw [hq_o1.2.1]; exact ec
        have hq_o7 : qE o1 o7 := q_act hE_o1 hr_o7 (by decide) ho7
        have hE_o7 := hq_o7.1
        have hc_o7 : eC o7 = eC o := hq_o7.2.1.trans hq_o1.2.1
        refine lv_cvt (y := -2) (congrArg Prod.fst hr_o7) ?_
        refine lv_bipush (v := (-2)) hx hb dL_isClosed_115 (by decide) ?_
        refine lv_icmp_ne (tgt := 133) hx hb dL_isClosed_117 (by decide) (fun c => absurd c (by decide)) (fun _ => ?_)
        refine lv_aload_n hx hb dL_isClosed_120 rfl (lv_at hl 6 rfl) ?_
        refine xlS (rest := []) ⟨hx, hb, hml, hown, hts⟩ (c_L_sum l G cI cQ d o7 hE_o7) (cwS 1 hts gL_isClosed_L_sum rfl rfl rfl cd_L_sum ⟨Nat.le_of_ble_eq_true rfl, Nat.le_of_ble_eq_true rfl⟩) hK hP rfl hl.1 rfl (Nat.le_of_ble_eq_true rfl) dL_isClosed_121 ⟨Nat.le_of_ble_eq_true rfl, Nat.le_of_ble_eq_true rfl⟩ ?_
        refine lv_lload_n hx hb dL_isClosed_124 rfl (lv_at hl 4 rfl) ?_
        refine W.lcmp hx hb dL_isClosed_125 ?_
        refine lv_cvt (y := 0) (by rw [hc_o7, hq_o1.2.1]; exact lcmp_eq _) ?_
        refine lv_if_ne (tgt := 133) hx hb dL_isClosed_126 (by decide) (fun c => False.elim (c rfl)) (fun _ => ?_)
        refine lv_iconst (v := 1) hx hb dL_isClosed_129 (by decide) ?_
        refine lv_goto (tgt := 134) hx hb dL_isClosed_130 (by decide) ?_
        exact m_ret (ty := .boolean) o7 hx hb hr hlocks rfl ⟨rfl, ⟨hE_o7, hc_o7⟩⟩ hP hD hS dL_isClosed_134
      | succ n6 ih_i =>
        intro i hi_i H locs hP hD hS ls hl
        have lt_i : i < manyN (eC o) k := by omega
        refine lv_iload hx hb dL_isClosed_73 (lv_at hl 0 rfl) ?_
        refine lv_iload hx hb dL_isClosed_75 (lv_at hl 2 rfl) ?_
        refine lv_icmp_ge (tgt := 103) hx hb dL_isClosed_77 (by decide) (fun c => False.elim (nI_ge lt_i (by omega) c)) (fun _ => ?_)
        refine lv_iload hx hb dL_isClosed_80 (lv_at hl 1 rfl) ?_
        refine lv_aload_n hx hb dL_isClosed_82 rfl (lv_at hl 6 rfl) ?_
        refine lv_aload_n hx hb dL_isClosed_83 rfl (lv_at hl 6 rfl) ?_
        refine lv_iload_n hx hb dL_isClosed_84 rfl (lv_at hl 7 rfl) ?_
        refine lv_iload hx hb dL_isClosed_85 (lv_at hl 0 rfl) ?_
        refine xpV (rest := [.ref (adE d), .int (nI (su (lwN (eC o) k i (qN (eC o))) (knj (eC o))))]) ⟨hx, hb, hml, hown, hts⟩ (x_leaving l G cI cQ d o1 hE_o1 (nI k) (nI i)) (cwV 2 hts gL_isClosed_X4_leaving rfl rfl rfl cd_X4_leaving ⟨Nat.le_of_ble_eq_true rfl, Nat.le_of_ble_eq_true rfl⟩) hK hP rfl hl.1 rfl (Nat.le_of_ble_eq_true rfl) dL_isClosed_87 ⟨Nat.le_of_ble_eq_true rfl, Nat.le_of_ble_eq_true rfl⟩ ?_
        obtain ⟨j, hj, ej, hpj, hrj⟩ := leav_ok w.1 k6 lt_i
        refine lv_cvt (y := (nI j)) (by rw [hq_o1.2.1]; exact (vlv w.1 hk (by omega)).trans ej) ?_
        refine lv_iconst (v := 1) hx hb dL_isClosed_90 (by decide) ?_
        refine xpV (rest := [.int (nI (su (lwN (eC o) k i (qN (eC o))) (knj (eC o))))]) ⟨hx, hb, hml, hown, hts⟩ (x_job l G cI cQ d o1 hE_o1 (nI j) 1) (cwV 2 hts gL_isClosed_X4_job rfl rfl rfl cd_X4_job ⟨Nat.le_of_ble_eq_true rfl, Nat.le_of_ble_eq_true rfl⟩) hK hP rfl hl.1 rfl (Nat.le_of_ble_eq_true rfl) dL_isClosed_91 ⟨Nat.le_of_ble_eq_true rfl, Nat.le_of_ble_eq_true rfl⟩ ?_
        refine lv_cvt (y := (nI (qN (eC o) j))) (by rw [hq_o1.2.1]; exact vj1 w.1 hj) ?_
        refine lv_iadd hx hb dL_isClosed_94 ?_
        refine lv_cvt (y := (nI (su (lwN (eC o) k (i + 1) (qN (eC o))) (knj (eC o))))) (by rw [nI_add, lw_step _ hj hpj hrj]) ?_
        refine lv_istore (lv' := [(7, .int (nI (su (lwN (eC o) k (i + 1) (qN (eC o))) (knj (eC o))))), (8, .int (nI i)), (6, .int (nI (manyN (eC o) k))), (5, .int (kbu (eC o))), (3, .long (sumF (eC o1))), (2, .int (nI (gtN (sClose (eC o) (nI k))))), (0, .ref (adE d)), (1, .int (nI k))]) hx hb dL_isClosed_95 hl (by decide) rfl (fun ls hl => ?_)
        refine lv_iinc (v := (nI (i + 1))) (lv' := [(8, .int (nI (i + 1))), (7, .int (nI (su (lwN (eC o) k (i + 1) (qN (eC o))) (knj (eC o))))), (6, .int (nI (manyN (eC o) k))), (5, .int (kbu (eC o))), (3, .long (sumF (eC o1))), (2, .int (nI (gtN (sClose (eC o) (nI k))))), (0, .ref (adE d)), (1, .int (nI k))]) hx hb dL_isClosed_97 hl (k := 1) rfl (nI_1 i) (by decide) rfl (fun ls hl => ?_)
        refine lv_goto (tgt := 73) hx hb dL_isClosed_100 (by decide) ?_
        exact ih_i (i + 1) (by omega) H locs hP hD hS ls hl
    have e_l0 : su (lwN (eC o) k 0 (qN (eC o))) (knj (eC o)) = 0 := lw_0 k _
    exact K5 (manyN (eC o) k) 0 (by omega) H locs hP hD hS _ (by rw [e_l0]; exact hl)
  · skip
    refine lv_cvt (y := (nI (gtN (sClose (eC o) (nI k))))) (ew) ?_
    refine lv_istore_n (lv' := [(2, .int (nI (gtN (sClose (eC o) (nI k))))), (0, .ref (adE d)), (1, .int (nI k))]) hx hb dL_isClosed_5 rfl hl (by decide) rfl (fun ls hl => ?_)
    refine lv_aload_n hx hb dL_isClosed_6 rfl (lv_at hl 1 rfl) ?_
    refine lv_iload_n hx hb dL_isClosed_7 rfl (lv_at hl 2 rfl) ?_
    refine lv_iconst (v := 0) hx hb dL_isClosed_8 (by decide) ?_
    refine xpV (rest := []) ⟨hx, hb, hml, hown, hts⟩ (x_server l G cI cQ d o1 hE_o1 (nI k) 0) (cwV 2 hts gL_isClosed_X4_server rfl rfl rfl cd_X4_server ⟨Nat.le_of_ble_eq_true rfl, Nat.le_of_ble_eq_true rfl⟩) hK hP rfl hl.1 rfl (Nat.le_of_ble_eq_true rfl) dL_isClosed_9 ⟨Nat.le_of_ble_eq_true rfl, Nat.le_of_ble_eq_true rfl⟩ ?_
    refine lv_cvt (y := 1) (by rw [hq_o1.2.1]; exact (vs0 w.1 hk).trans (congrArg nI (if_pos g1))) ?_
    refine lv_if_eq (tgt := 24) hx hb dL_isClosed_12 (by decide) (fun c => False.elim (absurd c (by decide))) (fun _ => ?_)
    refine lv_aload_n hx hb dL_isClosed_15 rfl (lv_at hl 1 rfl) ?_
    refine lv_iconst (v := 1) hx hb dL_isClosed_16 (by decide) ?_
    refine xpV (rest := []) ⟨hx, hb, hml, hown, hts⟩ (x_count l G cI cQ d o1 hE_o1 1) (cwV 1 hts gL_isClosed_X4_count rfl rfl rfl cd_X4_count ⟨Nat.le_of_ble_eq_true rfl, Nat.le_of_ble_eq_true rfl⟩) hK hP rfl hl.1 rfl (Nat.le_of_ble_eq_true rfl) dL_isClosed_17 ⟨Nat.le_of_ble_eq_true rfl, Nat.le_of_ble_eq_true rfl⟩ ?_
    refine lv_cvt (y := (nI (opN (eC o)))) (by rw [hq_o1.2.1]; exact vc1 w.1) ?_
    refine lv_iconst (v := 1) hx hb dL_isClosed_20 (by decide) ?_
    refine lv_icmp_ne (tgt := 46) hx hb dL_isClosed_21 (by decide) (fun _ => ?_) (fun c => False.elim (absurd ((nI_eq (b := 1) (by omega) (by decide)).mp c) (by omega)))
    refine lv_aload_n hx hb dL_isClosed_46 rfl (lv_at hl 1 rfl) ?_
    refine xlS (rest := []) ⟨hx, hb, hml, hown, hts⟩ (c_L_sum l G cI cQ d o1 hE_o1) (cwS 1 hts gL_isClosed_L_sum rfl rfl rfl cd_L_sum ⟨Nat.le_of_ble_eq_true rfl, Nat.le_of_ble_eq_true rfl⟩) hK hP rfl hl.1 rfl (Nat.le_of_ble_eq_true rfl) dL_isClosed_47 ⟨Nat.le_of_ble_eq_true rfl, Nat.le_of_ble_eq_true rfl⟩ ?_
    refine lv_lstore_n (lv' := [(3, .long (sumF (eC o1))), (2, .int (nI (gtN (sClose (eC o) (nI k))))), (0, .ref (adE d)), (1, .int (nI k))]) hx hb dL_isClosed_50 rfl hl (by decide) rfl (fun ls hl => ?_)
    refine lv_aload_n hx hb dL_isClosed_51 rfl (lv_at hl 2 rfl) ?_
    refine lv_bipush (v := 10) hx hb dL_isClosed_52 (by decide) ?_
    refine xpV (rest := []) ⟨hx, hb, hml, hown, hts⟩ (x_count l G cI cQ d o1 hE_o1 10) (cwV 1 hts gL_isClosed_X4_count rfl rfl rfl cd_X4_count ⟨Nat.le_of_ble_eq_true rfl, Nat.le_of_ble_eq_true rfl⟩) hK hP rfl hl.1 rfl (Nat.le_of_ble_eq_true rfl) dL_isClosed_54 ⟨Nat.le_of_ble_eq_true rfl, Nat.le_of_ble_eq_true rfl⟩ ?_
    refine lv_cvt (y := (kbu (eC o))) (by rw [hq_o1.2.1]; rfl) ?_
    refine lv_istore (lv' := [(5, .int (kbu (eC o))), (3, .long (sumF (eC o1))), (2, .int (nI (gtN (sClose (eC o) (nI k))))), (0, .ref (adE d)), (1, .int (nI k))]) hx hb dL_isClosed_57 hl (by decide) rfl (fun ls hl => ?_)
    refine lv_aload_n hx hb dL_isClosed_59 rfl (lv_at hl 3 rfl) ?_
    refine lv_iload_n hx hb dL_isClosed_60 rfl (lv_at hl 4 rfl) ?_
    refine lv_iconst (v := 2) hx hb dL_isClosed_61 (by decide) ?_
    refine xpV (rest := []) ⟨hx, hb, hml, hown, hts⟩ (x_server l G cI cQ d o1 hE_o1 (nI k) 2) (cwV 2 hts gL_isClosed_X4_server rfl rfl rfl cd_X4_server ⟨Nat.le_of_ble_eq_true rfl, Nat.le_of_ble_eq_true rfl⟩) hK hP rfl hl.1 rfl (Nat.le_of_ble_eq_true rfl) dL_isClosed_62 ⟨Nat.le_of_ble_eq_true rfl, Nat.le_of_ble_eq_true rfl⟩ ?_
    refine lv_cvt (y := (nI (manyN (eC o) k))) (by rw [hq_o1.2.1]; exact vs2 w.1 hk) ?_
    refine lv_istore (lv' := [(6, .int (nI (manyN (eC o) k))), (5, .int (kbu (eC o))), (3, .long (sumF (eC o1))), (2, .int (nI (gtN (sClose (eC o) (nI k))))), (0, .ref (adE d)), (1, .int (nI k))]) hx hb dL_isClosed_65 hl (by decide) rfl (fun ls hl => ?_)
    refine lv_iconst (v := 0) hx hb dL_isClosed_67 (by decide) ?_
    refine lv_istore (lv' := [(7, .int 0), (6, .int (nI (manyN (eC o) k))), (5, .int (kbu (eC o))), (3, .long (sumF (eC o1))), (2, .int (nI (gtN (sClose (eC o) (nI k))))), (0, .ref (adE d)), (1, .int (nI k))]) hx hb dL_isClosed_68 hl (by decide) rfl (fun ls hl => ?_)
    refine lv_iconst (v := 0) hx hb dL_isClosed_70 (by decide) ?_
    refine lv_istore (lv' := [(8, .int 0), (7, .int 0), (6, .int (nI (manyN (eC o) k))), (5, .int (kbu (eC o))), (3, .long (sumF (eC o1))), (2, .int (nI (gtN (sClose (eC o) (nI k))))), (0, .ref (adE d)), (1, .int (nI k))]) hx hb dL_isClosed_71 hl (by decide) rfl (fun ls hl => ?_)
    have K8 : ∀ (n9 i : Nat), i + n9 = manyN (eC o) k → ∀ (H : Heap) (locs : List Loc), va_P G vwCl (XW cI cQ d o1) H → va_D A (XW cI cQ d o1) → va_S A s.heap H locs → ∀ (ls : Array Slot), lv_has ls 9 [(8, .int (nI i)), (7, .int (nI (su (lwN (eC o) k i (qN (eC o))) (knj (eC o))))), (6, .int (nI (manyN (eC o) k))), (5, .int (kbu (eC o))), (3, .long (sumF (eC o1))), (2, .int (nI (gtN (sClose (eC o) (nI k))))), (0, .ref (adE d)), (1, .int (nI k))] → W p l e ({ frames := 7, cells := 0, slots := 0, locals := 186 } : Room) s m ([.ref (adE d), .int (nI k)] : List Value).toArray below meth cd H locs 0 0 (MQ below (va_Qi (fun (r : Int32) (u : ES) => r = 1 ∧ (EI u ∧ eC u = eC o)) (mB G (A) (XW cI cQ d)) (A)) ([.ref (adE d), .int (nI k)] : List Value).toArray s 0 0 A) (F0 m 73 ls []) := by
      intro n9
      induction n9 with
      | zero =>
        intro i hi_i H locs hP hD hS ls hl
        have e_i : i = manyN (eC o) k := by omega
        subst e_i
        refine lv_iload hx hb dL_isClosed_73 (lv_at hl 0 rfl) ?_
        refine lv_iload hx hb dL_isClosed_75 (lv_at hl 2 rfl) ?_
        refine lv_icmp_ge (tgt := 103) hx hb dL_isClosed_77 (by decide) (fun _ => ?_) (fun c => False.elim (c (Int32.le_refl _)))
        refine lv_iload hx hb dL_isClosed_103 (lv_at hl 1 rfl) ?_
        refine lv_cvt (y := (nI (prN (eC o) k))) (congrArg nI (lw_all k (qN (eC o)))) ?_
        refine lv_iload hx hb dL_isClosed_105 (lv_at hl 3 rfl) ?_
        refine lv_icmp_le (tgt := 135) hx hb dL_isClosed_107 (by decide) (fun _ => ?_) (fun c => False.elim (c ((bu_le w (by omega)).mpr g3)))
        refine lv_aload_n hx hb dL_isClosed_135 rfl (lv_at hl 6 rfl) ?_
        refine lv_bipush (v := 12) hx hb dL_isClosed_136 (by decide) ?_
        refine xpV (rest := []) ⟨hx, hb, hml, hown, hts⟩ (x_count l G cI cQ d o1 hE_o1 12) (cwV 1 hts gL_isClosed_X4_count rfl rfl rfl cd_X4_count ⟨Nat.le_of_ble_eq_true rfl, Nat.le_of_ble_eq_true rfl⟩) hK hP rfl hl.1 rfl (Nat.le_of_ble_eq_true rfl) dL_isClosed_138 ⟨Nat.le_of_ble_eq_true rfl, Nat.le_of_ble_eq_true rfl⟩ ?_
        refine lv_cvt (y := (kmo (eC o))) (by rw [hq_o1.2.1]; rfl) ?_
        refine lv_istore (lv' := [(8, .int (kmo (eC o))), (7, .int (nI (su (lwN (eC o) k (manyN (eC o) k) (qN (eC o))) (knj (eC o))))), (6, .int (nI (manyN (eC o) k))), (5, .int (kbu (eC o))), (3, .long (sumF (eC o1))), (2, .int (nI (gtN (sClose (eC o) (nI k))))), (0, .ref (adE d)), (1, .int (nI k))]) hx hb dL_isClosed_141 hl (by decide) rfl (fun ls hl => ?_)
        refine lv_aload_n hx hb dL_isClosed_143 rfl (lv_at hl 6 rfl) ?_
        refine lv_iload_n hx hb dL_isClosed_144 rfl (lv_at hl 7 rfl) ?_
        refine xmV (rest := []) ⟨hx, hb, hml, hown, hts⟩ (x_close l G cI cQ d o1 hE_o1 (nI k) _) (cwV 1 hts gL_isClosed_X4_close rfl rfl rfl cd_X4_close ⟨Nat.le_of_ble_eq_true rfl, Nat.le_of_ble_eq_true rfl⟩) hK hP hD hS hA rfl hl.1 rfl (Nat.le_of_ble_eq_true rfl) dL_isClosed_145 ⟨Nat.le_of_ble_eq_true rfl, Nat.le_of_ble_eq_true rfl⟩ (fun o10 H locs ho10 hP hD hS => ?_)
        have hr_o10 : (fClose (eC o1) (nI k)) = (nI (manyN (eC o) k), sClose (eC o) (nI k)) := by rw [hq_o1.2.1]; exact ec
        have hE_o10 : EI o10 := ei_act hE_o1 (by rw [hr_o10]; exact wc) ho10
        have hc_o10 : eC o10 = sClose (eC o) (nI k) := by rw [ho10]; exact congrArg Prod.snd hr_o10
        have hh_o10 := hh_act (o := o1) (by rw [hr_o10]; exact nI_pos (by omega)) ho10
        refine lv_cvt (y := nI (manyN (eC o) k)) (congrArg Prod.fst hr_o10) ?_
        refine lv_iload hx hb dL_isClosed_148 (lv_at hl 2 rfl) ?_
        refine lv_icmp_ne (tgt := 228) hx hb dL_isClosed_150 (by decide) (fun c => False.elim (c rfl)) (fun _ => ?_)
        refine lv_aload_n hx hb dL_isClosed_153 rfl (lv_at hl 6 rfl) ?_
        refine lv_iconst (v := 5) hx hb dL_isClosed_154 (by decide) ?_
        refine xpV (rest := []) ⟨hx, hb, hml, hown, hts⟩ (x_count l G cI cQ d o10 hE_o10 5) (cwV 1 hts gL_isClosed_X4_count rfl rfl rfl cd_X4_count ⟨Nat.le_of_ble_eq_true rfl, Nat.le_of_ble_eq_true rfl⟩) hK hP rfl hl.1 rfl (Nat.le_of_ble_eq_true rfl) dL_isClosed_155 ⟨Nat.le_of_ble_eq_true rfl, Nat.le_of_ble_eq_true rfl⟩ ?_
        refine lv_cvt (y := (nI (gtN (sClose (eC o) (nI k))))) (by rw [hc_o10]; exact vc5 wc.1) ?_
        refine lv_iload_n hx hb dL_isClosed_158 rfl (lv_at hl 5 rfl) ?_
        refine lv_icmp_ne (tgt := 228) hx hb dL_isClosed_159 (by decide) (fun c => False.elim (c rfl)) (fun _ => ?_)
        refine lv_aload_n hx hb dL_isClosed_162 rfl (lv_at hl 6 rfl) ?_
        refine lv_bipush (v := 10) hx hb dL_isClosed_163 (by decide) ?_
        refine xpV (rest := []) ⟨hx, hb, hml, hown, hts⟩ (x_count l G cI cQ d o10 hE_o10 10) (cwV 1 hts gL_isClosed_X4_count rfl rfl rfl cd_X4_count ⟨Nat.le_of_ble_eq_true rfl, Nat.le_of_ble_eq_true rfl⟩) hK hP rfl hl.1 rfl (Nat.le_of_ble_eq_true rfl) dL_isClosed_165 ⟨Nat.le_of_ble_eq_true rfl, Nat.le_of_ble_eq_true rfl⟩ ?_
        refine lv_cvt (y := (kbu (eC o) - (nI (prN (eC o) k)))) (by rw [hc_o10]; exact cbu) ?_
        refine lv_iload hx hb dL_isClosed_168 (lv_at hl 3 rfl) ?_
        refine lv_iload hx hb dL_isClosed_170 (lv_at hl 1 rfl) ?_
        refine lv_cvt (y := (nI (prN (eC o) k))) (congrArg nI (lw_all k (qN (eC o)))) ?_
        refine lv_isub hx hb dL_isClosed_172 ?_
        refine lv_icmp_ne (tgt := 228) hx hb dL_isClosed_173 (by decide) (fun c => False.elim (c rfl)) (fun _ => ?_)
        refine lv_aload_n hx hb dL_isClosed_176 rfl (lv_at hl 6 rfl) ?_
        refine lv_bipush (v := 12) hx hb dL_isClosed_177 (by decide) ?_
        refine xpV (rest := []) ⟨hx, hb, hml, hown, hts⟩ (x_count l G cI cQ d o10 hE_o10 12) (cwV 1 hts gL_isClosed_X4_count rfl rfl rfl cd_X4_count ⟨Nat.le_of_ble_eq_true rfl, Nat.le_of_ble_eq_true rfl⟩) hK hP rfl hl.1 rfl (Nat.le_of_ble_eq_true rfl) dL_isClosed_179 ⟨Nat.le_of_ble_eq_true rfl, Nat.le_of_ble_eq_true rfl⟩ ?_
        refine lv_cvt (y := (kmo (eC o) + (nI (manyN (eC o) k)))) (by rw [hc_o10]; exact cmo) ?_
        refine lv_iload hx hb dL_isClosed_182 (lv_at hl 0 rfl) ?_
        refine lv_iload hx hb dL_isClosed_184 (lv_at hl 2 rfl) ?_
        refine lv_iadd hx hb dL_isClosed_186 ?_
        refine lv_icmp_ne (tgt := 228) hx hb dL_isClosed_187 (by decide) (fun c => False.elim (c rfl)) (fun _ => ?_)
        refine lv_aload_n hx hb dL_isClosed_190 rfl (lv_at hl 6 rfl) ?_
        refine lv_iload_n hx hb dL_isClosed_191 rfl (lv_at hl 7 rfl) ?_
        refine lv_iconst (v := 0) hx hb dL_isClosed_192 (by decide) ?_
        refine xpV (rest := []) ⟨hx, hb, hml, hown, hts⟩ (x_server l G cI cQ d o10 hE_o10 (nI k) 0) (cwV 2 hts gL_isClosed_X4_server rfl rfl rfl cd_X4_server ⟨Nat.le_of_ble_eq_true rfl, Nat.le_of_ble_eq_true rfl⟩) hK hP rfl hl.1 rfl (Nat.le_of_ble_eq_true rfl) dL_isClosed_193 ⟨Nat.le_of_ble_eq_true rfl, Nat.le_of_ble_eq_true rfl⟩ ?_
        refine lv_cvt (y := 0) (by rw [hc_o10]; exact (vs0 wc.1 (by rw [cnv]; exact hk)).trans (congrArg nI (if_neg cnk))) ?_
        refine lv_if_ne (tgt := 228) hx hb dL_isClosed_196 (by decide) (fun c => absurd c (by decide)) (fun _ => ?_)
        refine lv_aload_n hx hb dL_isClosed_199 rfl (lv_at hl 6 rfl) ?_
        refine lv_iload_n hx hb dL_isClosed_200 rfl (lv_at hl 7 rfl) ?_
        refine lv_iconst (v := 1) hx hb dL_isClosed_201 (by decide) ?_
        refine xpV (rest := []) ⟨hx, hb, hml, hown, hts⟩ (x_server l G cI cQ d o10 hE_o10 (nI k) 1) (cwV 2 hts gL_isClosed_X4_server rfl rfl rfl cd_X4_server ⟨Nat.le_of_ble_eq_true rfl, Nat.le_of_ble_eq_true rfl⟩) hK hP rfl hl.1 rfl (Nat.le_of_ble_eq_true rfl) dL_isClosed_202 ⟨Nat.le_of_ble_eq_true rfl, Nat.le_of_ble_eq_true rfl⟩ ?_
        refine lv_cvt (y := 0) (by rw [hc_o10]; exact (vs1 wc.1 (by rw [cnv]; exact hk)).trans (congrArg nI cl0)) ?_
        refine lv_if_ne (tgt := 228) hx hb dL_isClosed_205 (by decide) (fun c => absurd c (by decide)) (fun _ => ?_)
        refine lv_aload_n hx hb dL_isClosed_208 rfl (lv_at hl 6 rfl) ?_
        refine xmV (rest := []) ⟨hx, hb, hml, hown, hts⟩ (x_undo l G cI cQ d o10 hE_o10  _) (cwV 0 hts gL_isClosed_X4_undo rfl rfl rfl cd_X4_undo ⟨Nat.le_of_ble_eq_true rfl, Nat.le_of_ble_eq_true rfl⟩) hK hP hD hS hA rfl hl.1 rfl (Nat.le_of_ble_eq_true rfl) dL_isClosed_209 ⟨Nat.le_of_ble_eq_true rfl, Nat.le_of_ble_eq_true rfl⟩ (fun o11 H locs ho11 hP hD hS => ?_)
        have hu_o11 := ei_undo hE_o1 hh_o10.1 hh_o10.2 ho11
        have hE_o11 := hu_o11.2.1
        refine lv_if_lt (tgt := 228) hx hb dL_isClosed_212 (by decide) (fun c => False.elim (hu_o11.1 c)) (fun _ => ?_)
        refine lv_aload_n hx hb dL_isClosed_215 rfl (lv_at hl 6 rfl) ?_
        refine xlS (rest := []) ⟨hx, hb, hml, hown, hts⟩ (c_L_sum l G cI cQ d o11 hE_o11) (cwS 1 hts gL_isClosed_L_sum rfl rfl rfl cd_L_sum ⟨Nat.le_of_ble_eq_true rfl, Nat.le_of_ble_eq_true rfl⟩) hK hP rfl hl.1 rfl (Nat.le_of_ble_eq_true rfl) dL_isClosed_216 ⟨Nat.le_of_ble_eq_true rfl, Nat.le_of_ble_eq_true rfl⟩ ?_
        refine lv_lload_n hx hb dL_isClosed_219 rfl (lv_at hl 4 rfl) ?_
        refine W.lcmp hx hb dL_isClosed_220 ?_
        refine lv_cvt (y := 0) (by rw [hu_o11.2.2]; exact lcmp_eq _) ?_
        refine lv_if_ne (tgt := 228) hx hb dL_isClosed_221 (by decide) (fun c => False.elim (c rfl)) (fun _ => ?_)
        refine lv_iconst (v := 1) hx hb dL_isClosed_224 (by decide) ?_
        refine lv_goto (tgt := 229) hx hb dL_isClosed_225 (by decide) ?_
        exact m_ret (ty := .boolean) o11 hx hb hr hlocks rfl ⟨rfl, ⟨hE_o11, hu_o11.2.2.trans hq_o1.2.1⟩⟩ hP hD hS dL_isClosed_229
      | succ n9 ih_i =>
        intro i hi_i H locs hP hD hS ls hl
        have lt_i : i < manyN (eC o) k := by omega
        refine lv_iload hx hb dL_isClosed_73 (lv_at hl 0 rfl) ?_
        refine lv_iload hx hb dL_isClosed_75 (lv_at hl 2 rfl) ?_
        refine lv_icmp_ge (tgt := 103) hx hb dL_isClosed_77 (by decide) (fun c => False.elim (nI_ge lt_i (by omega) c)) (fun _ => ?_)
        refine lv_iload hx hb dL_isClosed_80 (lv_at hl 1 rfl) ?_
        refine lv_aload_n hx hb dL_isClosed_82 rfl (lv_at hl 6 rfl) ?_
        refine lv_aload_n hx hb dL_isClosed_83 rfl (lv_at hl 6 rfl) ?_
        refine lv_iload_n hx hb dL_isClosed_84 rfl (lv_at hl 7 rfl) ?_
        refine lv_iload hx hb dL_isClosed_85 (lv_at hl 0 rfl) ?_
        refine xpV (rest := [.ref (adE d), .int (nI (su (lwN (eC o) k i (qN (eC o))) (knj (eC o))))]) ⟨hx, hb, hml, hown, hts⟩ (x_leaving l G cI cQ d o1 hE_o1 (nI k) (nI i)) (cwV 2 hts gL_isClosed_X4_leaving rfl rfl rfl cd_X4_leaving ⟨Nat.le_of_ble_eq_true rfl, Nat.le_of_ble_eq_true rfl⟩) hK hP rfl hl.1 rfl (Nat.le_of_ble_eq_true rfl) dL_isClosed_87 ⟨Nat.le_of_ble_eq_true rfl, Nat.le_of_ble_eq_true rfl⟩ ?_
        obtain ⟨j, hj, ej, hpj, hrj⟩ := leav_ok w.1 k6 lt_i
        refine lv_cvt (y := (nI j)) (by rw [hq_o1.2.1]; exact (vlv w.1 hk (by omega)).trans ej) ?_
        refine lv_iconst (v := 1) hx hb dL_isClosed_90 (by decide) ?_
        refine xpV (rest := [.int (nI (su (lwN (eC o) k i (qN (eC o))) (knj (eC o))))]) ⟨hx, hb, hml, hown, hts⟩ (x_job l G cI cQ d o1 hE_o1 (nI j) 1) (cwV 2 hts gL_isClosed_X4_job rfl rfl rfl cd_X4_job ⟨Nat.le_of_ble_eq_true rfl, Nat.le_of_ble_eq_true rfl⟩) hK hP rfl hl.1 rfl (Nat.le_of_ble_eq_true rfl) dL_isClosed_91 ⟨Nat.le_of_ble_eq_true rfl, Nat.le_of_ble_eq_true rfl⟩ ?_
        refine lv_cvt (y := (nI (qN (eC o) j))) (by rw [hq_o1.2.1]; exact vj1 w.1 hj) ?_
        refine lv_iadd hx hb dL_isClosed_94 ?_
        refine lv_cvt (y := (nI (su (lwN (eC o) k (i + 1) (qN (eC o))) (knj (eC o))))) (by rw [nI_add, lw_step _ hj hpj hrj]) ?_
        refine lv_istore (lv' := [(7, .int (nI (su (lwN (eC o) k (i + 1) (qN (eC o))) (knj (eC o))))), (8, .int (nI i)), (6, .int (nI (manyN (eC o) k))), (5, .int (kbu (eC o))), (3, .long (sumF (eC o1))), (2, .int (nI (gtN (sClose (eC o) (nI k))))), (0, .ref (adE d)), (1, .int (nI k))]) hx hb dL_isClosed_95 hl (by decide) rfl (fun ls hl => ?_)
        refine lv_iinc (v := (nI (i + 1))) (lv' := [(8, .int (nI (i + 1))), (7, .int (nI (su (lwN (eC o) k (i + 1) (qN (eC o))) (knj (eC o))))), (6, .int (nI (manyN (eC o) k))), (5, .int (kbu (eC o))), (3, .long (sumF (eC o1))), (2, .int (nI (gtN (sClose (eC o) (nI k))))), (0, .ref (adE d)), (1, .int (nI k))]) hx hb dL_isClosed_97 hl (k := 1) rfl (nI_1 i) (by decide) rfl (fun ls hl => ?_)
        refine lv_goto (tgt := 73) hx hb dL_isClosed_100 (by decide) ?_
        exact ih_i (i + 1) (by omega) H locs hP hD hS ls hl
    have e_l0 : su (lwN (eC o) k 0 (qN (eC o))) (knj (eC o)) = 0 := lw_0 k _
    exact K8 (manyN (eC o) k) 0 (by omega) H locs hP hD hS _ (by rw [e_l0]; exact hl)
theorem cd_L_isClosed : yL_isClosed.cls = RL ∧ yL_isClosed.cls ≠ "java/lang/invoke/MethodHandle" ∧ yL_isClosed.cls ≠ "java/lang/invoke/VarHandle" ∧ (parseMethodDescriptor yL_isClosed.desc).map (fun d => d.parameters.length) = some 2 := by decide +kernel
