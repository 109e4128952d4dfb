set_option maxHeartbeats 4000000 in
set_option maxRecDepth 100000 in
theorem c_L_areFewest (l : Launch) (G : va_G) (cI cQ : ClassId) (d : AD) (o : ES) (hE : EI o) (sz0 : Nat) : Met l yL_areFewest wsL_areFewest ({ frames := 10, cells := 0, slots := 0, locals := 414 } : Room) (mPc G cI cQ [.ref (adE d)] (XW cI cQ d o) sz0) (va_Qi (fun (r : Int32) (u : ES) => r = 1 ∧ (EI u ∧ eC u = eC o)) (mB G (va_A (XW cI cQ d o) sz0) (XW cI cQ d)) (va_A (XW cI cQ d o) sz0)) 0 0 (va_A (XW cI cQ d o) sz0) := by
  refine mm_of (cc := cL_areFewest) (maxL := 9) (ret := (some .boolean)) (own := RL) (by decide) rfl rfl (Nat.le_of_ble_eq_true rfl) rfl ?_
  intro p e s m below meth cd ls A hx hb hr hts hown hlocks hml hA hK hP hD hS hl
  have w := hE.1
  have hj24 := ci_nj w.1
  have hv6 := ci_nv w.1
  have hq_o := q_rf hE
  revert hP hD hS
  suffices hall : ∀ (H : Heap) (locs : List Loc), va_P G vwCl (XW cI cQ d o) H → va_D A (XW cI cQ d o) → va_S A s.heap H locs → W p l e ({ frames := 10, cells := 0, slots := 0, locals := 414 } : Room) s m ([.ref (adE d)] : List Value).toArray below meth cd H locs 0 0 (MQ below (va_Qi (fun (r : Int32) (u : ES) => r = 1 ∧ (EI u ∧ eC u = eC o)) (mB G (A) (XW cI cQ d)) (A)) ([.ref (adE d)] : List Value).toArray s 0 0 A) (F0 m 0 ls []) from fun hP hD hS => hall _ _ hP hD hS
  intro H locs hP hD hS
  refine lv_aload_n hx hb dL_areFewest_0 rfl (lv_at hl 0 rfl) ?_
  refine lv_iconst (v := 0) hx hb dL_areFewest_1 (by decide) ?_
  refine xmV (rest := []) ⟨hx, hb, hml, hown, hts⟩ (x_fewest l G cI cQ d o hE 0 _) (cwV 1 hts gL_areFewest_X4_fewest rfl rfl rfl cd_X4_fewest ⟨Nat.le_of_ble_eq_true rfl, Nat.le_of_ble_eq_true rfl⟩) hK hP hD hS hA rfl hl.1 rfl (Nat.le_of_ble_eq_true rfl) dL_areFewest_2 ⟨Nat.le_of_ble_eq_true rfl, Nat.le_of_ble_eq_true rfl⟩ (fun o1 H locs ho1 hP hD hS => ?_)
  have hq_o1 : qE o o1 := q_tr hq_o (q_few hE ho1)
  have hE_o1 := hq_o1.1
  refine lv_istore_n (lv' := [(1, .int (sFewest (eC o) 0)), (0, .ref (adE d))]) hx hb dL_areFewest_5 rfl hl (by decide) rfl (fun ls hl => ?_)
  refine lv_aload_n hx hb dL_areFewest_6 rfl (lv_at hl 1 rfl) ?_
  refine lv_iconst (v := 1) hx hb dL_areFewest_7 (by decide) ?_
  refine xmV (rest := []) ⟨hx, hb, hml, hown, hts⟩ (x_fewest l G cI cQ d o1 hE_o1 1 _) (cwV 1 hts gL_areFewest_X4_fewest rfl rfl rfl cd_X4_fewest ⟨Nat.le_of_ble_eq_true rfl, Nat.le_of_ble_eq_true rfl⟩) hK hP hD hS hA rfl hl.1 rfl (Nat.le_of_ble_eq_true rfl) dL_areFewest_8 ⟨Nat.le_of_ble_eq_true rfl, Nat.le_of_ble_eq_true rfl⟩ (fun o2 H locs ho2 hP hD hS => ?_)
  refine lv_cvt (y := (sFewest (eC o) 1)) (by rw [hq_o1.2.1]) ?_
  have hq_o2 : qE o o2 := q_tr hq_o1 (q_few hE_o1 ho2)
  have hE_o2 := hq_o2.1
  rcases few_ok w.1 with ⟨g, e0, e1⟩ | ⟨g, ecs⟩
  · skip
    refine lv_istore_n (lv' := [(2, .int (sFewest (eC o) 1)), (1, .int (sFewest (eC o) 0)), (0, .ref (adE d))]) hx hb dL_areFewest_11 rfl hl (by decide) rfl (fun ls hl => ?_)
    refine lv_iload_n hx hb dL_areFewest_12 rfl (lv_at hl 1 rfl) ?_
    refine lv_bipush (v := (-9)) hx hb dL_areFewest_13 (by decide) ?_
    refine lv_icmp_ne (tgt := 22) hx hb dL_areFewest_15 (by decide) (fun _ => ?_) (fun c => False.elim (absurd (c.symm.trans e0) (by decide)))
    refine lv_iconst (v := 0) hx hb dL_areFewest_22 (by decide) ?_
    refine lv_iload_n hx hb dL_areFewest_23 rfl (lv_at hl 0 rfl) ?_
    refine lv_bipush (v := (-9)) hx hb dL_areFewest_24 (by decide) ?_
    refine lv_icmp_ne (tgt := 33) hx hb dL_areFewest_26 (by decide) (fun _ => ?_) (fun c => False.elim (absurd (c.symm.trans e1) (by decide)))
    refine lv_iconst (v := 0) hx hb dL_areFewest_33 (by decide) ?_
    refine lv_icmp_ne (tgt := 81) hx hb dL_areFewest_34 (by decide) (fun c => absurd c (by decide)) (fun _ => ?_)
    refine lv_iload_n hx hb dL_areFewest_37 rfl (lv_at hl 1 rfl) ?_
    refine lv_if_ne (tgt := 45) hx hb dL_areFewest_38 (by decide) (fun c => False.elim (c e0)) (fun _ => ?_)
    refine lv_iconst (v := 1) hx hb dL_areFewest_41 (by decide) ?_
    refine lv_goto (tgt := 46) hx hb dL_areFewest_42 (by decide) ?_
    refine lv_aload_n hx hb dL_areFewest_46 rfl (lv_at hl 2 rfl) ?_
    refine lv_bipush (v := 9) hx hb dL_areFewest_47 (by decide) ?_
    refine xpV (rest := [.int 1]) ⟨hx, hb, hml, hown, hts⟩ (x_count l G cI cQ d o2 hE_o2 9) (cwV 1 hts gL_areFewest_X4_count rfl rfl rfl cd_X4_count ⟨Nat.le_of_ble_eq_true rfl, Nat.le_of_ble_eq_true rfl⟩) hK hP rfl hl.1 rfl (Nat.le_of_ble_eq_true rfl) dL_areFewest_49 ⟨Nat.le_of_ble_eq_true rfl, Nat.le_of_ble_eq_true rfl⟩ ?_
    refine lv_cvt (y := 1) (by rw [hq_o2.2.1]; exact vc9t w.1 g) ?_
    refine lv_iconst (v := 1) hx hb dL_areFewest_52 (by decide) ?_
    refine lv_icmp_ne (tgt := 60) hx hb dL_areFewest_53 (by decide) (fun c => absurd c (by decide)) (fun _ => ?_)
    refine lv_iconst (v := 1) hx hb dL_areFewest_56 (by decide) ?_
    refine lv_goto (tgt := 61) hx hb dL_areFewest_57 (by decide) ?_
    refine lv_icmp_ne (tgt := 81) hx hb dL_areFewest_61 (by decide) (fun c => absurd c (by decide)) (fun _ => ?_)
    refine lv_iload_n hx hb dL_areFewest_64 rfl (lv_at hl 1 rfl) ?_
    refine lv_iconst (v := 2) hx hb dL_areFewest_65 (by decide) ?_
    refine lv_icmp_gt (tgt := 81) hx hb dL_areFewest_66 (by decide) (fun c => False.elim (absurd (Int32.lt_of_lt_of_le c (Int32.le_of_eq e0)) (by decide))) (fun _ => ?_)
    refine lv_iload_n hx hb dL_areFewest_69 rfl (lv_at hl 1 rfl) ?_
    refine lv_if_ne (tgt := 77) hx hb dL_areFewest_70 (by decide) (fun c => False.elim (c e0)) (fun _ => ?_)
    refine lv_iload_n hx hb dL_areFewest_73 rfl (lv_at hl 0 rfl) ?_
    refine lv_if_ne (tgt := 81) hx hb dL_areFewest_74 (by decide) (fun c => False.elim (c e1)) (fun _ => ?_)
    refine lv_iconst (v := 1) hx hb dL_areFewest_77 (by decide) ?_
    refine lv_goto (tgt := 82) hx hb dL_areFewest_78 (by decide) ?_
    refine lv_istore_n (lv' := [(3, .int 1), (2, .int (sFewest (eC o) 1)), (1, .int (sFewest (eC o) 0)), (0, .ref (adE d))]) hx hb dL_areFewest_82 rfl hl (by decide) rfl (fun ls hl => ?_)
    refine lv_aload_n hx hb dL_areFewest_83 rfl (lv_at hl 3 rfl) ?_
    refine xlS (rest := []) ⟨hx, hb, hml, hown, hts⟩ (c_L_sum l G cI cQ d o2 hE_o2) (cwS 1 hts gL_areFewest_L_sum rfl rfl rfl cd_L_sum ⟨Nat.le_of_ble_eq_true rfl, Nat.le_of_ble_eq_true rfl⟩) hK hP rfl hl.1 rfl (Nat.le_of_ble_eq_true rfl) dL_areFewest_84 ⟨Nat.le_of_ble_eq_true rfl, Nat.le_of_ble_eq_true rfl⟩ ?_
    have e_s : sumF (eC o2) = sumF (eC o) := by rw [hq_o2.2.1]
    rw [e_s]
    refine lv_lstore (lv' := [(4, .long (sumF (eC o))), (3, .int 1), (2, .int (sFewest (eC o) 1)), (1, .int (sFewest (eC o) 0)), (0, .ref (adE d))]) hx hb dL_areFewest_87 hl (by decide) rfl (fun ls hl => ?_)
    refine lv_aload_n hx hb dL_areFewest_89 rfl (lv_at hl 4 rfl) ?_
    refine lv_bipush (v := 10) hx hb dL_areFewest_90 (by decide) ?_
    refine xpV (rest := []) ⟨hx, hb, hml, hown, hts⟩ (x_count l G cI cQ d o2 hE_o2 10) (cwV 1 hts gL_areFewest_X4_count rfl rfl rfl cd_X4_count ⟨Nat.le_of_ble_eq_true rfl, Nat.le_of_ble_eq_true rfl⟩) hK hP rfl hl.1 rfl (Nat.le_of_ble_eq_true rfl) dL_areFewest_92 ⟨Nat.le_of_ble_eq_true rfl, Nat.le_of_ble_eq_true rfl⟩ ?_
    refine lv_cvt (y := (kbu (eC o))) (by rw [hq_o2.2.1]; rfl) ?_
    refine lv_istore (lv' := [(6, .int (kbu (eC o))), (4, .long (sumF (eC o))), (3, .int 1), (2, .int (sFewest (eC o) 1)), (1, .int (sFewest (eC o) 0)), (0, .ref (adE d))]) hx hb dL_areFewest_95 hl (by decide) rfl (fun ls hl => ?_)
    refine lv_iconst (v := 0) hx hb dL_areFewest_97 (by decide) ?_
    refine lv_istore (lv' := [(7, .int 0), (6, .int (kbu (eC o))), (4, .long (sumF (eC o))), (3, .int 1), (2, .int (sFewest (eC o) 1)), (1, .int (sFewest (eC o) 0)), (0, .ref (adE d))]) hx hb dL_areFewest_98 hl (by decide) rfl (fun ls hl => ?_)
    refine lv_iload hx hb dL_areFewest_100 (lv_at hl 0 rfl) ?_
    refine lv_aload_n hx hb dL_areFewest_102 rfl (lv_at hl 6 rfl) ?_
    refine lv_iconst (v := 2) hx hb dL_areFewest_103 (by decide) ?_
    refine xpV (rest := [.int 0]) ⟨hx, hb, hml, hown, hts⟩ (x_count l G cI cQ d o2 hE_o2 2) (cwV 1 hts gL_areFewest_X4_count rfl rfl rfl cd_X4_count ⟨Nat.le_of_ble_eq_true rfl, Nat.le_of_ble_eq_true rfl⟩) hK hP rfl hl.1 rfl (Nat.le_of_ble_eq_true rfl) dL_areFewest_104 ⟨Nat.le_of_ble_eq_true rfl, Nat.le_of_ble_eq_true rfl⟩ ?_
    refine lv_cvt (y := (nI (knj (eC o)))) (by rw [hq_o2.2.1]; rfl) ?_
    refine lv_icmp_ge (tgt := 218) hx hb dL_areFewest_107 (by decide) (fun c107 => ?_) (fun c107 => ?_)
    · skip
      refine lv_iload_n hx hb dL_areFewest_218 rfl (lv_at hl 3 rfl) ?_
      refine lv_if_eq (tgt := 236) hx hb dL_areFewest_219 (by decide) (fun c => absurd c (by decide)) (fun _ => ?_)
      refine lv_aload_n hx hb dL_areFewest_222 rfl (lv_at hl 6 rfl) ?_
      refine xlS (rest := []) ⟨hx, hb, hml, hown, hts⟩ (c_L_sum l G cI cQ d o2 hE_o2) (cwS 1 hts gL_areFewest_L_sum rfl rfl rfl cd_L_sum ⟨Nat.le_of_ble_eq_true rfl, Nat.le_of_ble_eq_true rfl⟩) hK hP rfl hl.1 rfl (Nat.le_of_ble_eq_true rfl) dL_areFewest_223 ⟨Nat.le_of_ble_eq_true rfl, Nat.le_of_ble_eq_true rfl⟩ ?_
      refine lv_lload hx hb dL_areFewest_226 (lv_at hl 2 rfl) ?_
      refine W.lcmp hx hb dL_areFewest_228 ?_
      refine lv_cvt (y := 0) (by rw [hq_o2.2.1]; exact lcmp_eq _) ?_
      refine lv_if_ne (tgt := 236) hx hb dL_areFewest_229 (by decide) (fun c => False.elim (c rfl)) (fun _ => ?_)
      refine lv_iconst (v := 1) hx hb dL_areFewest_232 (by decide) ?_
      refine lv_goto (tgt := 237) hx hb dL_areFewest_233 (by decide) ?_
      exact m_ret (ty := .boolean) o2 hx hb hr hlocks rfl ⟨rfl, ⟨hE_o2, hq_o2.2.1⟩⟩ hP hD hS dL_areFewest_237
    · skip
      refine lv_iload_n hx hb dL_areFewest_110 rfl (lv_at hl 3 rfl) ?_
      refine lv_if_eq (tgt := 218) hx hb dL_areFewest_111 (by decide) (fun c => absurd c (by decide)) (fun _ => ?_)
      refine lv_iload_n hx hb dL_areFewest_114 rfl (lv_at hl 5 rfl) ?_
      refine lv_if_eq (tgt := 218) hx hb dL_areFewest_115 (by decide) (fun _ => ?_) (fun c => False.elim (c e0))
      refine lv_iload_n hx hb dL_areFewest_218 rfl (lv_at hl 3 rfl) ?_
      refine lv_if_eq (tgt := 236) hx hb dL_areFewest_219 (by decide) (fun c => absurd c (by decide)) (fun _ => ?_)
      refine lv_aload_n hx hb dL_areFewest_222 rfl (lv_at hl 6 rfl) ?_
      refine xlS (rest := []) ⟨hx, hb, hml, hown, hts⟩ (c_L_sum l G cI cQ d o2 hE_o2) (cwS 1 hts gL_areFewest_L_sum rfl rfl rfl cd_L_sum ⟨Nat.le_of_ble_eq_true rfl, Nat.le_of_ble_eq_true rfl⟩) hK hP rfl hl.1 rfl (Nat.le_of_ble_eq_true rfl) dL_areFewest_223 ⟨Nat.le_of_ble_eq_true rfl, Nat.le_of_ble_eq_true rfl⟩ ?_
      refine lv_lload hx hb dL_areFewest_226 (lv_at hl 2 rfl) ?_
      refine W.lcmp hx hb dL_areFewest_228 ?_
      refine lv_cvt (y := 0) (by rw [hq_o2.2.1]; exact lcmp_eq _) ?_
      refine lv_if_ne (tgt := 236) hx hb dL_areFewest_229 (by decide) (fun c => False.elim (c rfl)) (fun _ => ?_)
      refine lv_iconst (v := 1) hx hb dL_areFewest_232 (by decide) ?_
      refine lv_goto (tgt := 237) hx hb dL_areFewest_233 (by decide) ?_
      exact m_ret (ty := .boolean) o2 hx hb hr hlocks rfl ⟨rfl, ⟨hE_o2, hq_o2.2.1⟩⟩ hP hD hS dL_areFewest_237
  · skip
    have hn0 : ¬ sFewest (eC o) 0 = 0 := fun q => by rcases ecs with ⟨e0, -⟩ | ⟨e0 | e0, -⟩ <;> (rw [e0] at q; exact absurd q (by decide))
    have K83 : ∀ (o_K : ES), EI o_K → eC o_K = eC o → ∀ (H : Heap) (locs : List Loc), va_P G vwCl (XW cI cQ d o_K) H → va_D A (XW cI cQ d o_K) → va_S A s.heap H locs → ∀ (ls : Array Slot), lv_has ls 9 [(3, .int 1), (2, .int (sFewest (eC o) 1)), (1, .int (sFewest (eC o) 0)), (0, .ref (adE d))] → W p l e ({ frames := 10, cells := 0, slots := 0, locals := 414 } : Room) s m ([.ref (adE d)] : List Value).toArray below meth cd H locs 0 0 (MQ below (va_Qi (fun (r : Int32) (u : ES) => r = 1 ∧ (EI u ∧ eC u = eC o)) (mB G (A) (XW cI cQ d)) (A)) ([.ref (adE d)] : List Value).toArray s 0 0 A) (F0 m 83 ls []) := by
      intro o_K hE_o_K hc_o_K H locs hP hD hS ls hl
      refine lv_aload_n hx hb dL_areFewest_83 rfl (lv_at hl 3 rfl) ?_
      refine xlS (rest := []) ⟨hx, hb, hml, hown, hts⟩ (c_L_sum l G cI cQ d o_K hE_o_K) (cwS 1 hts gL_areFewest_L_sum rfl rfl rfl cd_L_sum ⟨Nat.le_of_ble_eq_true rfl, Nat.le_of_ble_eq_true rfl⟩) hK hP rfl hl.1 rfl (Nat.le_of_ble_eq_true rfl) dL_areFewest_84 ⟨Nat.le_of_ble_eq_true rfl, Nat.le_of_ble_eq_true rfl⟩ ?_
      have e_s : sumF (eC o_K) = sumF (eC o) := by rw [hc_o_K]
      rw [e_s]
      refine lv_lstore (lv' := [(4, .long (sumF (eC o))), (3, .int 1), (2, .int (sFewest (eC o) 1)), (1, .int (sFewest (eC o) 0)), (0, .ref (adE d))]) hx hb dL_areFewest_87 hl (by decide) rfl (fun ls hl => ?_)
      refine lv_aload_n hx hb dL_areFewest_89 rfl (lv_at hl 4 rfl) ?_
      refine lv_bipush (v := 10) hx hb dL_areFewest_90 (by decide) ?_
      refine xpV (rest := []) ⟨hx, hb, hml, hown, hts⟩ (x_count l G cI cQ d o_K hE_o_K 10) (cwV 1 hts gL_areFewest_X4_count rfl rfl rfl cd_X4_count ⟨Nat.le_of_ble_eq_true rfl, Nat.le_of_ble_eq_true rfl⟩) hK hP rfl hl.1 rfl (Nat.le_of_ble_eq_true rfl) dL_areFewest_92 ⟨Nat.le_of_ble_eq_true rfl, Nat.le_of_ble_eq_true rfl⟩ ?_
      refine lv_cvt (y := (kbu (eC o))) (by rw [hc_o_K]; rfl) ?_
      refine lv_istore (lv' := [(6, .int (kbu (eC o))), (4, .long (sumF (eC o))), (3, .int 1), (2, .int (sFewest (eC o) 1)), (1, .int (sFewest (eC o) 0)), (0, .ref (adE d))]) hx hb dL_areFewest_95 hl (by decide) rfl (fun ls hl => ?_)
      refine lv_iconst (v := 0) hx hb dL_areFewest_97 (by decide) ?_
      refine lv_istore (lv' := [(7, .int 0), (6, .int (kbu (eC o))), (4, .long (sumF (eC o))), (3, .int 1), (2, .int (sFewest (eC o) 1)), (1, .int (sFewest (eC o) 0)), (0, .ref (adE d))]) hx hb dL_areFewest_98 hl (by decide) rfl (fun ls hl => ?_)
      have K3 : ∀ (n4 j : Nat), j + n4 = knj (eC o) → ∀ (o_j : ES) (hE_o_j : EI o_j) (H : Heap) (locs : List Loc),eC o_j = eC o → va_P G vwCl (XW cI cQ d o_j) H → va_D A (XW cI cQ d o_j) → va_S A s.heap H locs → ∀ (ls : Array Slot), lv_has ls 9 [(7, .int (nI j)), (6, .int (kbu (eC o))), (4, .long (sumF (eC o))), (3, .int 1), (2, .int (sFewest (eC o) 1)), (1, .int (sFewest (eC o) 0)), (0, .ref (adE d))] → W p l e ({ frames := 10, cells := 0, slots := 0, locals := 414 } : Room) s m ([.ref (adE d)] : List Value).toArray below meth cd H locs 0 0 (MQ below (va_Qi (fun (r : Int32) (u : ES) => r = 1 ∧ (EI u ∧ eC u = eC o)) (mB G (A) (XW cI cQ d)) (A)) ([.ref (adE d)] : List Value).toArray s 0 0 A) (F0 m 100 ls []) := by
        intro n4
        induction n4 with
        | zero =>
          intro j hi_j o_j hE_o_j H locs hc_o_j hP hD hS ls hl
          have e_j : j = knj (eC o) := by omega
          subst e_j
          refine lv_iload hx hb dL_areFewest_100 (lv_at hl 0 rfl) ?_
          refine lv_aload_n hx hb dL_areFewest_102 rfl (lv_at hl 6 rfl) ?_
          refine lv_iconst (v := 2) hx hb dL_areFewest_103 (by decide) ?_
          refine xpV (rest := [.int (nI (knj (eC o)))]) ⟨hx, hb, hml, hown, hts⟩ (x_count l G cI cQ d o_j hE_o_j 2) (cwV 1 hts gL_areFewest_X4_count rfl rfl rfl cd_X4_count ⟨Nat.le_of_ble_eq_true rfl, Nat.le_of_ble_eq_true rfl⟩) hK hP rfl hl.1 rfl (Nat.le_of_ble_eq_true rfl) dL_areFewest_104 ⟨Nat.le_of_ble_eq_true rfl, Nat.le_of_ble_eq_true rfl⟩ ?_
          refine lv_cvt (y := (nI (knj (eC o)))) (by rw [hc_o_j]; rfl) ?_
          refine lv_icmp_ge (tgt := 218) hx hb dL_areFewest_107 (by decide) (fun _ => ?_) (fun c => False.elim (c (Int32.le_refl _)))
          refine lv_iload_n hx hb dL_areFewest_218 rfl (lv_at hl 3 rfl) ?_
          refine lv_if_eq (tgt := 236) hx hb dL_areFewest_219 (by decide) (fun c => absurd c (by decide)) (fun _ => ?_)
          refine lv_aload_n hx hb dL_areFewest_222 rfl (lv_at hl 6 rfl) ?_
          refine xlS (rest := []) ⟨hx, hb, hml, hown, hts⟩ (c_L_sum l G cI cQ d o_j hE_o_j) (cwS 1 hts gL_areFewest_L_sum rfl rfl rfl cd_L_sum ⟨Nat.le_of_ble_eq_true rfl, Nat.le_of_ble_eq_true rfl⟩) hK hP rfl hl.1 rfl (Nat.le_of_ble_eq_true rfl) dL_areFewest_223 ⟨Nat.le_of_ble_eq_true rfl, Nat.le_of_ble_eq_true rfl⟩ ?_
          refine lv_lload hx hb dL_areFewest_226 (lv_at hl 2 rfl) ?_
          refine W.lcmp hx hb dL_areFewest_228 ?_
          refine lv_cvt (y := 0) (by rw [hc_o_j]; exact lcmp_eq _) ?_
          refine lv_if_ne (tgt := 236) hx hb dL_areFewest_229 (by decide) (fun c => False.elim (c rfl)) (fun _ => ?_)
          refine lv_iconst (v := 1) hx hb dL_areFewest_232 (by decide) ?_
          refine lv_goto (tgt := 237) hx hb dL_areFewest_233 (by decide) ?_
          exact m_ret (ty := .boolean) o_j hx hb hr hlocks rfl ⟨rfl, ⟨hE_o_j, hc_o_j⟩⟩ hP hD hS dL_areFewest_237
        | succ n4 ih_j =>
          intro j hi_j o_j hE_o_j H locs hc_o_j hP hD hS ls hl
          have lt_j : j < knj (eC o) := by omega
          refine lv_iload hx hb dL_areFewest_100 (lv_at hl 0 rfl) ?_
          refine lv_aload_n hx hb dL_areFewest_102 rfl (lv_at hl 6 rfl) ?_
          refine lv_iconst (v := 2) hx hb dL_areFewest_103 (by decide) ?_
          refine xpV (rest := [.int (nI j)]) ⟨hx, hb, hml, hown, hts⟩ (x_count l G cI cQ d o_j hE_o_j 2) (cwV 1 hts gL_areFewest_X4_count rfl rfl rfl cd_X4_count ⟨Nat.le_of_ble_eq_true rfl, Nat.le_of_ble_eq_true rfl⟩) hK hP rfl hl.1 rfl (Nat.le_of_ble_eq_true rfl) dL_areFewest_104 ⟨Nat.le_of_ble_eq_true rfl, Nat.le_of_ble_eq_true rfl⟩ ?_
          refine lv_cvt (y := (nI (knj (eC o)))) (by rw [hc_o_j]; rfl) ?_
          refine lv_icmp_ge (tgt := 218) hx hb dL_areFewest_107 (by decide) (fun c => False.elim (nI_ge lt_j (by omega) c)) (fun _ => ?_)
          refine lv_iload_n hx hb dL_areFewest_110 rfl (lv_at hl 3 rfl) ?_
          refine lv_if_eq (tgt := 218) hx hb dL_areFewest_111 (by decide) (fun c => absurd c (by decide)) (fun _ => ?_)
          refine lv_iload_n hx hb dL_areFewest_114 rfl (lv_at hl 5 rfl) ?_
          refine lv_if_eq (tgt := 218) hx hb dL_areFewest_115 (by decide) (fun c => False.elim (hn0 c)) (fun _ => ?_)
          refine lv_iconst (v := 0) hx hb dL_areFewest_118 (by decide) ?_
          refine lv_istore (lv' := [(8, .int 0), (7, .int (nI j)), (6, .int (kbu (eC o))), (4, .long (sumF (eC o))), (3, .int 1), (2, .int (sFewest (eC o) 1)), (1, .int (sFewest (eC o) 0)), (0, .ref (adE d))]) hx hb dL_areFewest_119 hl (by decide) rfl (fun ls hl => ?_)
          have K5 : ∀ (n6 k : Nat), k + n6 = knv (eC o) → ∀ (o_k : ES) (hE_o_k : EI o_k) (H : Heap) (locs : List Loc),eC o_k = eC o → va_P G vwCl (XW cI cQ d o_k) H → va_D A (XW cI cQ d o_k) → va_S A s.heap H locs → ∀ (ls : Array Slot), lv_has ls 9 [(8, .int (nI k)), (7, .int (nI j)), (6, .int (kbu (eC o))), (4, .long (sumF (eC o))), (3, .int 1), (2, .int (sFewest (eC o) 1)), (1, .int (sFewest (eC o) 0)), (0, .ref (adE d))] → W p l e ({ frames := 10, cells := 0, slots := 0, locals := 414 } : Room) s m ([.ref (adE d)] : List Value).toArray below meth cd H locs 0 0 (MQ below (va_Qi (fun (r : Int32) (u : ES) => r = 1 ∧ (EI u ∧ eC u = eC o)) (mB G (A) (XW cI cQ d)) (A)) ([.ref (adE d)] : List Value).toArray s 0 0 A) (F0 m 121 ls []) := by
            intro n6
            induction n6 with
            | zero =>
              intro k hi_k o_k hE_o_k H locs hc_o_k hP hD hS ls hl
              have e_k : k = knv (eC o) := by omega
              subst e_k
              refine lv_iload hx hb dL_areFewest_121 (lv_at hl 0 rfl) ?_
              refine lv_aload_n hx hb dL_areFewest_123 rfl (lv_at hl 7 rfl) ?_
              refine lv_iconst (v := 0) hx hb dL_areFewest_124 (by decide) ?_
              refine xpV (rest := [.int (nI (knv (eC o)))]) ⟨hx, hb, hml, hown, hts⟩ (x_count l G cI cQ d o_k hE_o_k 0) (cwV 1 hts gL_areFewest_X4_count rfl rfl rfl cd_X4_count ⟨Nat.le_of_ble_eq_true rfl, Nat.le_of_ble_eq_true rfl⟩) hK hP rfl hl.1 rfl (Nat.le_of_ble_eq_true rfl) dL_areFewest_125 ⟨Nat.le_of_ble_eq_true rfl, Nat.le_of_ble_eq_true rfl⟩ ?_
              refine lv_cvt (y := (nI (knv (eC o)))) (by rw [hc_o_k]; rfl) ?_
              refine lv_icmp_ge (tgt := 212) hx hb dL_areFewest_128 (by decide) (fun _ => ?_) (fun c => False.elim (c (Int32.le_refl _)))
              refine lv_iinc (v := (nI (j + 1))) (lv' := [(7, .int (nI (j + 1))), (8, .int (nI (knv (eC o)))), (6, .int (kbu (eC o))), (4, .long (sumF (eC o))), (3, .int 1), (2, .int (sFewest (eC o) 1)), (1, .int (sFewest (eC o) 0)), (0, .ref (adE d))]) hx hb dL_areFewest_212 hl (k := 1) rfl (nI_1 j) (by decide) rfl (fun ls hl => ?_)
              refine lv_goto (tgt := 100) hx hb dL_areFewest_215 (by decide) ?_
              exact ih_j (j + 1) (by omega) o_k hE_o_k H locs hc_o_k hP hD hS ls (lv_sub hl [0, 2, 3, 4, 5, 6, 7] rfl)
            | succ n6 ih_k =>
              intro k hi_k o_k hE_o_k H locs hc_o_k hP hD hS ls hl
              have lt_k : k < knv (eC o) := by omega
              refine lv_iload hx hb dL_areFewest_121 (lv_at hl 0 rfl) ?_
              refine lv_aload_n hx hb dL_areFewest_123 rfl (lv_at hl 7 rfl) ?_
              refine lv_iconst (v := 0) hx hb dL_areFewest_124 (by decide) ?_
              refine xpV (rest := [.int (nI k)]) ⟨hx, hb, hml, hown, hts⟩ (x_count l G cI cQ d o_k hE_o_k 0) (cwV 1 hts gL_areFewest_X4_count rfl rfl rfl cd_X4_count ⟨Nat.le_of_ble_eq_true rfl, Nat.le_of_ble_eq_true rfl⟩) hK hP rfl hl.1 rfl (Nat.le_of_ble_eq_true rfl) dL_areFewest_125 ⟨Nat.le_of_ble_eq_true rfl, Nat.le_of_ble_eq_true rfl⟩ ?_
              refine lv_cvt (y := (nI (knv (eC o)))) (by rw [hc_o_k]; rfl) ?_
              refine lv_icmp_ge (tgt := 212) hx hb dL_areFewest_128 (by decide) (fun c => False.elim (nI_ge lt_k (by omega) c)) (fun _ => ?_)
              refine lv_iload_n hx hb dL_areFewest_131 rfl (lv_at hl 4 rfl) ?_
              refine lv_if_eq (tgt := 212) hx hb dL_areFewest_132 (by decide) (fun c => absurd c (by decide)) (fun _ => ?_)
              refine lv_aload_n hx hb dL_areFewest_135 rfl (lv_at hl 7 rfl) ?_
              refine lv_iload hx hb dL_areFewest_136 (lv_at hl 1 rfl) ?_
              refine lv_iconst (v := 1) hx hb dL_areFewest_138 (by decide) ?_
              refine xpV (rest := []) ⟨hx, hb, hml, hown, hts⟩ (x_job l G cI cQ d o_k hE_o_k (nI j) 1) (cwV 2 hts gL_areFewest_X4_job rfl rfl rfl cd_X4_job ⟨Nat.le_of_ble_eq_true rfl, Nat.le_of_ble_eq_true rfl⟩) hK hP rfl hl.1 rfl (Nat.le_of_ble_eq_true rfl) dL_areFewest_139 ⟨Nat.le_of_ble_eq_true rfl, Nat.le_of_ble_eq_true rfl⟩ ?_
              refine lv_cvt (y := (nI (qN (eC o) j))) (by rw [hc_o_k]; exact vj1 w.1 lt_j) ?_
              refine lv_iload hx hb dL_areFewest_142 (lv_at hl 2 rfl) ?_
              refine lv_icmp_gt (tgt := 206) hx hb dL_areFewest_144 (by decide) (fun c144 => ?_) (fun c144 => ?_)
              · skip
                refine lv_iinc (v := (nI (k + 1))) (lv' := [(8, .int (nI (k + 1))), (7, .int (nI j)), (6, .int (kbu (eC o))), (4, .long (sumF (eC o))), (3, .int 1), (2, .int (sFewest (eC o) 1)), (1, .int (sFewest (eC o) 0)), (0, .ref (adE d))]) hx hb dL_areFewest_206 hl (k := 0) rfl (nI_1 k) (by decide) rfl (fun ls hl => ?_)
                refine lv_goto (tgt := 121) hx hb dL_areFewest_209 (by decide) ?_
                exact ih_k (k + 1) (by omega) o_k hE_o_k H locs hc_o_k hP hD hS ls hl
              · skip
                refine lv_aload_n hx hb dL_areFewest_147 rfl (lv_at hl 7 rfl) ?_
                refine lv_iload hx hb dL_areFewest_148 (lv_at hl 1 rfl) ?_
                refine lv_iload hx hb dL_areFewest_150 (lv_at hl 0 rfl) ?_
                refine xmV (rest := []) ⟨hx, hb, hml, hown, hts⟩ (x_move l G cI cQ d o_k hE_o_k (nI j) (nI k) _) (cwV 2 hts gL_areFewest_X4_move rfl rfl rfl cd_X4_move ⟨Nat.le_of_ble_eq_true rfl, Nat.le_of_ble_eq_true rfl⟩) hK hP hD hS hA rfl hl.1 rfl (Nat.le_of_ble_eq_true rfl) dL_areFewest_152 ⟨Nat.le_of_ble_eq_true rfl, Nat.le_of_ble_eq_true rfl⟩ (fun o7 H locs ho7 hP hD hS => ?_)
                rcases mv_sp w lt_j lt_k with ⟨m1, m2, m3, m4, em, wm⟩ | ⟨mb, em⟩
                · skip
                  have hr_o7 : (fMove (eC o_k) (nI j) (nI k)) = (nI (gtN (sTake (eC o) (nI j) (nI k))), (sTake (eC o) (nI j) (nI k))) := by rw [hc_o_k]; exact em
                  have hE_o7 : EI o7 := ei_act hE_o_k (by rw [hr_o7]; exact wm) ho7
                  have hc_o7 : eC o7 = (sTake (eC o) (nI j) (nI k)) := by rw [ho7]; exact congrArg Prod.snd hr_o7
                  have hh_o7 := hh_act (o := o_k) (by rw [hr_o7]; exact nI_pos (by have := gt_le wm.1; omega)) ho7
                  refine lv_cvt (y := nI (gtN (sTake (eC o) (nI j) (nI k)))) (congrArg Prod.fst hr_o7) ?_
                  refine lv_if_lt (tgt := 206) hx hb dL_areFewest_155 (by decide) (fun c => False.elim (nI_pos (by have := gt_le wm.1; omega) c)) (fun _ => ?_)
                  refine lv_aload_n hx hb dL_areFewest_158 rfl (lv_at hl 7 rfl) ?_
                  refine lv_bipush (v := 9) hx hb dL_areFewest_159 (by decide) ?_
                  refine xpV (rest := []) ⟨hx, hb, hml, hown, hts⟩ (x_count l G cI cQ d o7 hE_o7 9) (cwV 1 hts gL_areFewest_X4_count rfl rfl rfl cd_X4_count ⟨Nat.le_of_ble_eq_true rfl, Nat.le_of_ble_eq_true rfl⟩) hK hP rfl hl.1 rfl (Nat.le_of_ble_eq_true rfl) dL_areFewest_161 ⟨Nat.le_of_ble_eq_true rfl, Nat.le_of_ble_eq_true rfl⟩ ?_
                  by_cases gd : gtN (sTake (eC o) (nI j) (nI k)) ≤ tgN (sTake (eC o) (nI j) (nI k))
                  · skip
                    have hit := few_hit w.1 g lt_j m1 lt_k m3 (Ne.symm m2) (Nat.le_trans gd (Nat.le_of_eq (tk_tg (ci_j w.1 lt_j) (by omega) m1)))
                    refine lv_cvt (y := 1) (by rw [hc_o7]; exact vc9t wm.1 gd) ?_
                    refine lv_if_eq (tgt := 183) hx hb dL_areFewest_164 (by decide) (fun c => absurd c (by decide)) (fun _ => ?_)
                    refine lv_iload_n hx hb dL_areFewest_167 rfl (lv_at hl 6 rfl) ?_
                    refine lv_iconst (v := 1) hx hb dL_areFewest_168 (by decide) ?_
                    refine lv_icmp_ne (tgt := 187) hx hb dL_areFewest_169 (by decide) (fun c => False.elim (c hit.1)) (fun _ => ?_)
                    refine lv_iload_n hx hb dL_areFewest_172 rfl (lv_at hl 5 rfl) ?_
                    refine lv_aload_n hx hb dL_areFewest_173 rfl (lv_at hl 7 rfl) ?_
                    refine lv_iload hx hb dL_areFewest_174 (lv_at hl 1 rfl) ?_
                    refine lv_iconst (v := 1) hx hb dL_areFewest_176 (by decide) ?_
                    refine xpV (rest := [.int (sFewest (eC o) 1)]) ⟨hx, hb, hml, hown, hts⟩ (x_job l G cI cQ d o7 hE_o7 (nI j) 1) (cwV 2 hts gL_areFewest_X4_job rfl rfl rfl cd_X4_job ⟨Nat.le_of_ble_eq_true rfl, Nat.le_of_ble_eq_true rfl⟩) hK hP rfl hl.1 rfl (Nat.le_of_ble_eq_true rfl) dL_areFewest_177 ⟨Nat.le_of_ble_eq_true rfl, Nat.le_of_ble_eq_true rfl⟩ ?_
                    refine lv_cvt (y := (nI (qN (eC o) j))) (by rw [hc_o7]; exact vj1 wm.1 lt_j) ?_
                    refine lv_icmp_gt (tgt := 187) hx hb dL_areFewest_180 (by decide) (fun c => False.elim (by obtain ⟨b, hb1, hb2⟩ := hit.2; rw [hb2] at c; have := ci_q w.1 lt_j; exact nI_nlt hb1 (by omega) c)) (fun _ => ?_)
                    refine lv_iconst (v := 1) hx hb dL_areFewest_183 (by decide) ?_
                    refine lv_goto (tgt := 188) hx hb dL_areFewest_184 (by decide) ?_
                    refine lv_istore_n (lv' := [(3, .int 1), (8, .int (nI k)), (7, .int (nI j)), (6, .int (kbu (eC o))), (4, .long (sumF (eC o))), (2, .int (sFewest (eC o) 1)), (1, .int (sFewest (eC o) 0)), (0, .ref (adE d))]) hx hb dL_areFewest_188 rfl hl (by decide) rfl (fun ls hl => ?_)
                    refine lv_aload_n hx hb dL_areFewest_189 rfl (lv_at hl 7 rfl) ?_
                    refine xmV (rest := []) ⟨hx, hb, hml, hown, hts⟩ (x_undo l G cI cQ d o7 hE_o7  _) (cwV 0 hts gL_areFewest_X4_undo rfl rfl rfl cd_X4_undo ⟨Nat.le_of_ble_eq_true rfl, Nat.le_of_ble_eq_true rfl⟩) hK hP hD hS hA rfl hl.1 rfl (Nat.le_of_ble_eq_true rfl) dL_areFewest_190 ⟨Nat.le_of_ble_eq_true rfl, Nat.le_of_ble_eq_true rfl⟩ (fun o8 H locs ho8 hP hD hS => ?_)
                    have hu_o8 := ei_undo hE_o_k hh_o7.1 hh_o7.2 ho8
                    have hE_o8 := hu_o8.2.1
                    have hc_o8 : eC o8 = eC o := hu_o8.2.2.trans hc_o_k
                    refine lv_if_lt (tgt := 204) hx hb dL_areFewest_193 (by decide) (fun c => False.elim (hu_o8.1 c)) (fun _ => ?_)
                    refine lv_iload_n hx hb dL_areFewest_196 rfl (lv_at hl 0 rfl) ?_
                    refine lv_if_eq (tgt := 204) hx hb dL_areFewest_197 (by decide) (fun c => absurd c (by decide)) (fun _ => ?_)
                    refine lv_iconst (v := 1) hx hb dL_areFewest_200 (by decide) ?_
                    refine lv_goto (tgt := 205) hx hb dL_areFewest_201 (by decide) ?_
                    refine lv_istore_n (lv' := [(3, .int 1), (8, .int (nI k)), (7, .int (nI j)), (6, .int (kbu (eC o))), (4, .long (sumF (eC o))), (2, .int (sFewest (eC o) 1)), (1, .int (sFewest (eC o) 0)), (0, .ref (adE d))]) hx hb dL_areFewest_205 rfl hl (by decide) rfl (fun ls hl => ?_)
                    refine lv_iinc (v := (nI (k + 1))) (lv' := [(8, .int (nI (k + 1))), (3, .int 1), (7, .int (nI j)), (6, .int (kbu (eC o))), (4, .long (sumF (eC o))), (2, .int (sFewest (eC o) 1)), (1, .int (sFewest (eC o) 0)), (0, .ref (adE d))]) hx hb dL_areFewest_206 hl (k := 1) rfl (nI_1 k) (by decide) rfl (fun ls hl => ?_)
                    refine lv_goto (tgt := 121) hx hb dL_areFewest_209 (by decide) ?_
                    exact ih_k (k + 1) (by omega) o8 hE_o8 H locs hc_o8 hP hD hS ls (lv_sub hl [0, 2, 3, 4, 1, 5, 6, 7] rfl)
                  · skip
                    refine lv_cvt (y := 0) (by rw [hc_o7]; exact vc9f wm.1 gd) ?_
                    refine lv_if_eq (tgt := 183) hx hb dL_areFewest_164 (by decide) (fun _ => ?_) (fun c => absurd c (by decide))
                    refine lv_iconst (v := 1) hx hb dL_areFewest_183 (by decide) ?_
                    refine lv_goto (tgt := 188) hx hb dL_areFewest_184 (by decide) ?_
                    refine lv_istore_n (lv' := [(3, .int 1), (8, .int (nI k)), (7, .int (nI j)), (6, .int (kbu (eC o))), (4, .long (sumF (eC o))), (2, .int (sFewest (eC o) 1)), (1, .int (sFewest (eC o) 0)), (0, .ref (adE d))]) hx hb dL_areFewest_188 rfl hl (by decide) rfl (fun ls hl => ?_)
                    refine lv_aload_n hx hb dL_areFewest_189 rfl (lv_at hl 7 rfl) ?_
                    refine xmV (rest := []) ⟨hx, hb, hml, hown, hts⟩ (x_undo l G cI cQ d o7 hE_o7  _) (cwV 0 hts gL_areFewest_X4_undo rfl rfl rfl cd_X4_undo ⟨Nat.le_of_ble_eq_true rfl, Nat.le_of_ble_eq_true rfl⟩) hK hP hD hS hA rfl hl.1 rfl (Nat.le_of_ble_eq_true rfl) dL_areFewest_190 ⟨Nat.le_of_ble_eq_true rfl, Nat.le_of_ble_eq_true rfl⟩ (fun o9 H locs ho9 hP hD hS => ?_)
                    have hu_o9 := ei_undo hE_o_k hh_o7.1 hh_o7.2 ho9
                    have hE_o9 := hu_o9.2.1
                    have hc_o9 : eC o9 = eC o := hu_o9.2.2.trans hc_o_k
                    refine lv_if_lt (tgt := 204) hx hb dL_areFewest_193 (by decide) (fun c => False.elim (hu_o9.1 c)) (fun _ => ?_)
                    refine lv_iload_n hx hb dL_areFewest_196 rfl (lv_at hl 0 rfl) ?_
                    refine lv_if_eq (tgt := 204) hx hb dL_areFewest_197 (by decide) (fun c => absurd c (by decide)) (fun _ => ?_)
                    refine lv_iconst (v := 1) hx hb dL_areFewest_200 (by decide) ?_
                    refine lv_goto (tgt := 205) hx hb dL_areFewest_201 (by decide) ?_
                    refine lv_istore_n (lv' := [(3, .int 1), (8, .int (nI k)), (7, .int (nI j)), (6, .int (kbu (eC o))), (4, .long (sumF (eC o))), (2, .int (sFewest (eC o) 1)), (1, .int (sFewest (eC o) 0)), (0, .ref (adE d))]) hx hb dL_areFewest_205 rfl hl (by decide) rfl (fun ls hl => ?_)
                    refine lv_iinc (v := (nI (k + 1))) (lv' := [(8, .int (nI (k + 1))), (3, .int 1), (7, .int (nI j)), (6, .int (kbu (eC o))), (4, .long (sumF (eC o))), (2, .int (sFewest (eC o) 1)), (1, .int (sFewest (eC o) 0)), (0, .ref (adE d))]) hx hb dL_areFewest_206 hl (k := 1) rfl (nI_1 k) (by decide) rfl (fun ls hl => ?_)
                    refine lv_goto (tgt := 121) hx hb dL_areFewest_209 (by decide) ?_
                    exact ih_k (k + 1) (by omega) o9 hE_o9 H locs hc_o9 hP hD hS ls (lv_sub hl [0, 2, 3, 4, 1, 5, 6, 7] rfl)
                · skip
                  have hr_o7 : (fMove (eC o_k) (nI j) (nI k)) = (-2, eC o_k) := by rw [hc_o_k]; exact em
                  have hq_o7 : qE o_k o7 := q_act hE_o_k hr_o7 (by decide) ho7
                  have hE_o7 := hq_o7.1
                  have hc_o7 : eC o7 = eC o := hq_o7.2.1.trans hc_o_k
                  refine lv_cvt (y := -2) (congrArg Prod.fst hr_o7) ?_
                  refine lv_if_lt (tgt := 206) hx hb dL_areFewest_155 (by decide) (fun _ => ?_) (fun c => False.elim (c (by decide)))
                  refine lv_iinc (v := (nI (k + 1))) (lv' := [(8, .int (nI (k + 1))), (7, .int (nI j)), (6, .int (kbu (eC o))), (4, .long (sumF (eC o))), (3, .int 1), (2, .int (sFewest (eC o) 1)), (1, .int (sFewest (eC o) 0)), (0, .ref (adE d))]) hx hb dL_areFewest_206 hl (k := 0) rfl (nI_1 k) (by decide) rfl (fun ls hl => ?_)
                  refine lv_goto (tgt := 121) hx hb dL_areFewest_209 (by decide) ?_
                  exact ih_k (k + 1) (by omega) o7 hE_o7 H locs hc_o7 hP hD hS ls hl
          exact K5 (knv (eC o)) 0 (by omega) o_j hE_o_j H locs hc_o_j hP hD hS _ hl
      exact K3 (knj (eC o)) 0 (by omega) o_K hE_o_K H locs hc_o_K hP hD hS _ hl
    rcases ecs with ⟨e0, e1⟩ | ⟨e0 | e0, e1⟩
    · skip
      have hle : ¬ 2 < sFewest (eC o) 0 := by rw [e0]; decide
      refine lv_istore_n (lv' := [(2, .int (sFewest (eC o) 1)), (1, .int (sFewest (eC o) 0)), (0, .ref (adE d))]) hx hb dL_areFewest_11 rfl hl (by decide) rfl (fun ls hl => ?_)
      refine lv_iload_n hx hb dL_areFewest_12 rfl (lv_at hl 1 rfl) ?_
      refine lv_bipush (v := (-9)) hx hb dL_areFewest_13 (by decide) ?_
      refine lv_icmp_ne (tgt := 22) hx hb dL_areFewest_15 (by decide) (fun c => False.elim (c e0)) (fun _ => ?_)
      refine lv_iconst (v := 1) hx hb dL_areFewest_18 (by decide) ?_
      refine lv_goto (tgt := 23) hx hb dL_areFewest_19 (by decide) ?_
      refine lv_iload_n hx hb dL_areFewest_23 rfl (lv_at hl 0 rfl) ?_
      refine lv_bipush (v := (-9)) hx hb dL_areFewest_24 (by decide) ?_
      refine lv_icmp_ne (tgt := 33) hx hb dL_areFewest_26 (by decide) (fun c => False.elim (c e1)) (fun _ => ?_)
      refine lv_iconst (v := 1) hx hb dL_areFewest_29 (by decide) ?_
      refine lv_goto (tgt := 34) hx hb dL_areFewest_30 (by decide) ?_
      refine lv_icmp_ne (tgt := 81) hx hb dL_areFewest_34 (by decide) (fun c => absurd c (by decide)) (fun _ => ?_)
      refine lv_iload_n hx hb dL_areFewest_37 rfl (lv_at hl 1 rfl) ?_
      refine lv_if_ne (tgt := 45) hx hb dL_areFewest_38 (by decide) (fun _ => ?_) (fun c => False.elim (hn0 c))
      refine lv_iconst (v := 0) hx hb dL_areFewest_45 (by decide) ?_
      refine lv_aload_n hx hb dL_areFewest_46 rfl (lv_at hl 2 rfl) ?_
      refine lv_bipush (v := 9) hx hb dL_areFewest_47 (by decide) ?_
      refine xpV (rest := [.int 0]) ⟨hx, hb, hml, hown, hts⟩ (x_count l G cI cQ d o2 hE_o2 9) (cwV 1 hts gL_areFewest_X4_count rfl rfl rfl cd_X4_count ⟨Nat.le_of_ble_eq_true rfl, Nat.le_of_ble_eq_true rfl⟩) hK hP rfl hl.1 rfl (Nat.le_of_ble_eq_true rfl) dL_areFewest_49 ⟨Nat.le_of_ble_eq_true rfl, Nat.le_of_ble_eq_true rfl⟩ ?_
      refine lv_cvt (y := 0) (by rw [hq_o2.2.1]; exact vc9f w.1 g) ?_
      refine lv_iconst (v := 1) hx hb dL_areFewest_52 (by decide) ?_
      refine lv_icmp_ne (tgt := 60) hx hb dL_areFewest_53 (by decide) (fun _ => ?_) (fun c => absurd c (by decide))
      refine lv_iconst (v := 0) hx hb dL_areFewest_60 (by decide) ?_
      refine lv_icmp_ne (tgt := 81) hx hb dL_areFewest_61 (by decide) (fun c => absurd c (by decide)) (fun _ => ?_)
      refine lv_iload_n hx hb dL_areFewest_64 rfl (lv_at hl 1 rfl) ?_
      refine lv_iconst (v := 2) hx hb dL_areFewest_65 (by decide) ?_
      refine lv_icmp_gt (tgt := 81) hx hb dL_areFewest_66 (by decide) (fun c => False.elim (hle c)) (fun _ => ?_)
      refine lv_iload_n hx hb dL_areFewest_69 rfl (lv_at hl 1 rfl) ?_
      refine lv_if_ne (tgt := 77) hx hb dL_areFewest_70 (by decide) (fun _ => ?_) (fun c => False.elim (hn0 c))
      refine lv_iconst (v := 1) hx hb dL_areFewest_77 (by decide) ?_
      refine lv_goto (tgt := 82) hx hb dL_areFewest_78 (by decide) ?_
      refine lv_istore_n (lv' := [(3, .int 1), (2, .int (sFewest (eC o) 1)), (1, .int (sFewest (eC o) 0)), (0, .ref (adE d))]) hx hb dL_areFewest_82 rfl hl (by decide) rfl (fun ls hl => ?_)
      exact K83 o2 hE_o2 (hq_o2.2.1) H locs hP hD hS ls (lv_sub hl [0, 1, 2, 3] rfl)
    · skip
      have hle : ¬ 2 < sFewest (eC o) 0 := by rw [e0]; decide
      have hn9 : ¬ sFewest (eC o) 0 = -9 := by rw [e0]; decide
      refine lv_istore_n (lv' := [(2, .int (sFewest (eC o) 1)), (1, .int (sFewest (eC o) 0)), (0, .ref (adE d))]) hx hb dL_areFewest_11 rfl hl (by decide) rfl (fun ls hl => ?_)
      refine lv_iload_n hx hb dL_areFewest_12 rfl (lv_at hl 1 rfl) ?_
      refine lv_bipush (v := (-9)) hx hb dL_areFewest_13 (by decide) ?_
      refine lv_icmp_ne (tgt := 22) hx hb dL_areFewest_15 (by decide) (fun _ => ?_) (fun c => False.elim (hn9 c))
      refine lv_iconst (v := 0) hx hb dL_areFewest_22 (by decide) ?_
      refine lv_iload_n hx hb dL_areFewest_23 rfl (lv_at hl 0 rfl) ?_
      refine lv_bipush (v := (-9)) hx hb dL_areFewest_24 (by decide) ?_
      refine lv_icmp_ne (tgt := 33) hx hb dL_areFewest_26 (by decide) (fun _ => ?_) (fun c => False.elim (e1 c))
      refine lv_iconst (v := 0) hx hb dL_areFewest_33 (by decide) ?_
      refine lv_icmp_ne (tgt := 81) hx hb dL_areFewest_34 (by decide) (fun c => absurd c (by decide)) (fun _ => ?_)
      refine lv_iload_n hx hb dL_areFewest_37 rfl (lv_at hl 1 rfl) ?_
      refine lv_if_ne (tgt := 45) hx hb dL_areFewest_38 (by decide) (fun _ => ?_) (fun c => False.elim (hn0 c))
      refine lv_iconst (v := 0) hx hb dL_areFewest_45 (by decide) ?_
      refine lv_aload_n hx hb dL_areFewest_46 rfl (lv_at hl 2 rfl) ?_
      refine lv_bipush (v := 9) hx hb dL_areFewest_47 (by decide) ?_
      refine xpV (rest := [.int 0]) ⟨hx, hb, hml, hown, hts⟩ (x_count l G cI cQ d o2 hE_o2 9) (cwV 1 hts gL_areFewest_X4_count rfl rfl rfl cd_X4_count ⟨Nat.le_of_ble_eq_true rfl, Nat.le_of_ble_eq_true rfl⟩) hK hP rfl hl.1 rfl (Nat.le_of_ble_eq_true rfl) dL_areFewest_49 ⟨Nat.le_of_ble_eq_true rfl, Nat.le_of_ble_eq_true rfl⟩ ?_
      refine lv_cvt (y := 0) (by rw [hq_o2.2.1]; exact vc9f w.1 g) ?_
      refine lv_iconst (v := 1) hx hb dL_areFewest_52 (by decide) ?_
      refine lv_icmp_ne (tgt := 60) hx hb dL_areFewest_53 (by decide) (fun _ => ?_) (fun c => absurd c (by decide))
      refine lv_iconst (v := 0) hx hb dL_areFewest_60 (by decide) ?_
      refine lv_icmp_ne (tgt := 81) hx hb dL_areFewest_61 (by decide) (fun c => absurd c (by decide)) (fun _ => ?_)
      refine lv_iload_n hx hb dL_areFewest_64 rfl (lv_at hl 1 rfl) ?_
      refine lv_iconst (v := 2) hx hb dL_areFewest_65 (by decide) ?_
      refine lv_icmp_gt (tgt := 81) hx hb dL_areFewest_66 (by decide) (fun c => False.elim (hle c)) (fun _ => ?_)
      refine lv_iload_n hx hb dL_areFewest_69 rfl (lv_at hl 1 rfl) ?_
      refine lv_if_ne (tgt := 77) hx hb dL_areFewest_70 (by decide) (fun _ => ?_) (fun c => False.elim (hn0 c))
      refine lv_iconst (v := 1) hx hb dL_areFewest_77 (by decide) ?_
      refine lv_goto (tgt := 82) hx hb dL_areFewest_78 (by decide) ?_
      refine lv_istore_n (lv' := [(3, .int 1), (2, .int (sFewest (eC o) 1)), (1, .int (sFewest (eC o) 0)), (0, .ref (adE d))]) hx hb dL_areFewest_82 rfl hl (by decide) rfl (fun ls hl => ?_)
      exact K83 o2 hE_o2 (hq_o2.2.1) H locs hP hD hS ls (lv_sub hl [0, 1, 2, 3] rfl)
    · skip
      have hle : ¬ 2 < sFewest (eC o) 0 := by rw [e0]; decide
      have hn9 : ¬ sFewest (eC o) 0 = -9 := by rw [e0]; decide
      refine lv_istore_n (lv' := [(2, .int (sFewest (eC o) 1)), (1, .int (sFewest (eC o) 0)), (0, .ref (adE d))]) hx hb dL_areFewest_11 rfl hl (by decide) rfl (fun ls hl => ?_)
      refine lv_iload_n hx hb dL_areFewest_12 rfl (lv_at hl 1 rfl) ?_
      refine lv_bipush (v := (-9)) hx hb dL_areFewest_13 (by decide) ?_
      refine lv_icmp_ne (tgt := 22) hx hb dL_areFewest_15 (by decide) (fun _ => ?_) (fun c => False.elim (hn9 c))
      refine lv_iconst (v := 0) hx hb dL_areFewest_22 (by decide) ?_
      refine lv_iload_n hx hb dL_areFewest_23 rfl (lv_at hl 0 rfl) ?_
      refine lv_bipush (v := (-9)) hx hb dL_areFewest_24 (by decide) ?_
      refine lv_icmp_ne (tgt := 33) hx hb dL_areFewest_26 (by decide) (fun _ => ?_) (fun c => False.elim (e1 c))
      refine lv_iconst (v := 0) hx hb dL_areFewest_33 (by decide) ?_
      refine lv_icmp_ne (tgt := 81) hx hb dL_areFewest_34 (by decide) (fun c => absurd c (by decide)) (fun _ => ?_)
      refine lv_iload_n hx hb dL_areFewest_37 rfl (lv_at hl 1 rfl) ?_
      refine lv_if_ne (tgt := 45) hx hb dL_areFewest_38 (by decide) (fun _ => ?_) (fun c => False.elim (hn0 c))
      refine lv_iconst (v := 0) hx hb dL_areFewest_45 (by decide) ?_
      refine lv_aload_n hx hb dL_areFewest_46 rfl (lv_at hl 2 rfl) ?_
      refine lv_bipush (v := 9) hx hb dL_areFewest_47 (by decide) ?_
      refine xpV (rest := [.int 0]) ⟨hx, hb, hml, hown, hts⟩ (x_count l G cI cQ d o2 hE_o2 9) (cwV 1 hts gL_areFewest_X4_count rfl rfl rfl cd_X4_count ⟨Nat.le_of_ble_eq_true rfl, Nat.le_of_ble_eq_true rfl⟩) hK hP rfl hl.1 rfl (Nat.le_of_ble_eq_true rfl) dL_areFewest_49 ⟨Nat.le_of_ble_eq_true rfl, Nat.le_of_ble_eq_true rfl⟩ ?_
      refine lv_cvt (y := 0) (by rw [hq_o2.2.1]; exact vc9f w.1 g) ?_
      refine lv_iconst (v := 1) hx hb dL_areFewest_52 (by decide) ?_
      refine lv_icmp_ne (tgt := 60) hx hb dL_areFewest_53 (by decide) (fun _ => ?_) (fun c => absurd c (by decide))
      refine lv_iconst (v := 0) hx hb dL_areFewest_60 (by decide) ?_
      refine lv_icmp_ne (tgt := 81) hx hb dL_areFewest_61 (by decide) (fun c => absurd c (by decide)) (fun _ => ?_)
      refine lv_iload_n hx hb dL_areFewest_64 rfl (lv_at hl 1 rfl) ?_
      refine lv_iconst (v := 2) hx hb dL_areFewest_65 (by decide) ?_
      refine lv_icmp_gt (tgt := 81) hx hb dL_areFewest_66 (by decide) (fun c => False.elim (hle c)) (fun _ => ?_)
      refine lv_iload_n hx hb dL_areFewest_69 rfl (lv_at hl 1 rfl) ?_
      refine lv_if_ne (tgt := 77) hx hb dL_areFewest_70 (by decide) (fun _ => ?_) (fun c => False.elim (hn0 c))
      refine lv_iconst (v := 1) hx hb dL_areFewest_77 (by decide) ?_
      refine lv_goto (tgt := 82) hx hb dL_areFewest_78 (by decide) ?_
      refine lv_istore_n (lv' := [(3, .int 1), (2, .int (sFewest (eC o) 1)), (1, .int (sFewest (eC o) 0)), (0, .ref (adE d))]) hx hb dL_areFewest_82 rfl hl (by decide) rfl (fun ls hl => ?_)
      exact K83 o2 hE_o2 (hq_o2.2.1) H locs hP hD hS ls (lv_sub hl [0, 1, 2, 3] rfl)
theorem cd_L_areFewest : yL_areFewest.cls = RL ∧ yL_areFewest.cls ≠ "java/lang/invoke/MethodHandle" ∧ yL_areFewest.cls ≠ "java/lang/invoke/VarHandle" ∧ (parseMethodDescriptor yL_areFewest.desc).map (fun d => d.parameters.length) = some 1 := by decide +kernel
