theorem lk_L_sum_1 : Cond.constantLong RL 9 (17) ∈ wsL_sum := List.mem_of_getElem? (i := 1) (by decide +kernel)
theorem lk_L_sum_2 : Cond.constantLong RL 11 (31) ∈ wsL_sum := List.mem_of_getElem? (i := 2) (by decide +kernel)
set_option maxHeartbeats 4000000 in
set_option maxRecDepth 100000 in
theorem c_L_sum (l : Launch) (G : va_G) (cI cQ : ClassId) (d : AD) (o : ES) (hE : EI o) : Met l yL_sum wsL_sum ({ frames := 5, cells := 0, slots := 0, locals := 143 } : Room) (pPc G cI cQ [.ref (adE d)] (XW cI cQ d o)) (vp_Sl (fun r => r = sumF (eC o))) 0 0 (fun _ => False) := by
  refine pm_ofQ (cc := cL_sum) (maxL := 4) (ret := (some .long)) (own := RL) (by decide) rfl rfl (Nat.le_of_ble_eq_true rfl) rfl ?_
  intro p e s m below meth cd ls hx hb hr hts hown hlocks hml hK hP hl
  have hv6 := ci_nv hE.1.1
  have hj24 := ci_nj hE.1.1
  refine lv_ldc2 (v := 17) hx hb hown (hts _ lk_L_sum_1) dL_sum_0 ?_
  refine lv_lstore_n (lv' := [(1, .long 17), (0, .ref (adE d))]) hx hb dL_sum_3 rfl hl (by decide) rfl (fun ls hl => ?_)
  refine lv_iconst (v := 0) hx hb dL_sum_4 (by decide) ?_
  refine lv_istore_n (lv' := [(3, .int 0), (1, .long 17), (0, .ref (adE d))]) hx hb dL_sum_5 rfl hl (by decide) rfl (fun ls hl => ?_)
  have K1 : ∀ (n2 i : Nat), i + n2 = 13 → ∀ (_ : Unit), ∀ (ls : Array Slot), lv_has ls 4 [(3, .int (nI i)), (1, .long (smF (sumC (eC o)) 17 i)), (0, .ref (adE d))] → W p l e ({ frames := 5, cells := 0, slots := 0, locals := 143 } : Room) s m ([.ref (adE d)] : List Value).toArray below meth cd s.heap [] 0 0 (MQ below (vp_Sl (fun r => r = sumF (eC o))) ([.ref (adE d)] : List Value).toArray s 0 0 (fun _ => False)) (F0 m 6 ls []) := by
    intro n2
    induction n2 with
    | zero =>
      intro i hi_i _u ls hl
      have e_i : i = 13 := by omega
      subst e_i
      refine lv_iload_n hx hb dL_sum_6 rfl (lv_at hl 0 rfl) ?_
      refine lv_bipush (v := 13) hx hb dL_sum_7 (by decide) ?_
      refine lv_cvt (y := (nI 13)) (rfl) ?_
      refine lv_icmp_ge (tgt := 31) hx hb dL_sum_9 (by decide) (fun _ => ?_) (fun c => False.elim (c (Int32.le_refl _)))
      refine lv_iconst (v := 0) hx hb dL_sum_31 (by decide) ?_
      refine lv_istore_n (lv' := [(3, .int 0), (1, .long (smF (sumC (eC o)) 17 13)), (0, .ref (adE d))]) hx hb dL_sum_32 rfl hl (by decide) rfl (fun ls hl => ?_)
      have K3 : ∀ (n4 k : Nat), k + n4 = 5 * knv (eC o) → ∀ (_ : Unit), ∀ (ls : Array Slot), lv_has ls 4 [(3, .int (nI k)), (1, .long (smF (sumS (eC o)) (smF (sumC (eC o)) 17 13) k)), (0, .ref (adE d))] → W p l e ({ frames := 5, cells := 0, slots := 0, locals := 143 } : Room) s m ([.ref (adE d)] : List Value).toArray below meth cd s.heap [] 0 0 (MQ below (vp_Sl (fun r => r = sumF (eC o))) ([.ref (adE d)] : List Value).toArray s 0 0 (fun _ => False)) (F0 m 33 ls []) := by
        intro n4
        induction n4 with
        | zero =>
          intro k hi_k _u ls hl
          have e_k : k = 5 * knv (eC o) := by omega
          subst e_k
          refine lv_iload_n hx hb dL_sum_33 rfl (lv_at hl 0 rfl) ?_
          refine lv_iconst (v := 5) hx hb dL_sum_34 (by decide) ?_
          refine lv_aload_n hx hb dL_sum_35 rfl (lv_at hl 2 rfl) ?_
          refine lv_iconst (v := 0) hx hb dL_sum_36 (by decide) ?_
          refine xpV (rest := [.int 5, .int (nI (5 * knv (eC o)))]) ⟨hx, hb, hml, hown, hts⟩ (x_count l G cI cQ d o hE 0) (cwV 1 hts gL_sum_X4_count rfl rfl rfl cd_X4_count ⟨Nat.le_of_ble_eq_true rfl, Nat.le_of_ble_eq_true rfl⟩) hK hP rfl hl.1 rfl (Nat.le_of_ble_eq_true rfl) dL_sum_37 ⟨Nat.le_of_ble_eq_true rfl, Nat.le_of_ble_eq_true rfl⟩ ?_
          refine lv_cvt (y := (nI (knv (eC o)))) (rfl) ?_
          refine lv_imul hx hb dL_sum_40 ?_
          refine lv_cvt (y := (nI (5 * knv (eC o)))) (pk_mul 5 _) ?_
          refine lv_icmp_ge (tgt := 68) hx hb dL_sum_41 (by decide) (fun _ => ?_) (fun c => False.elim (c (Int32.le_refl _)))
          refine lv_iconst (v := 0) hx hb dL_sum_68 (by decide) ?_
          refine lv_istore_n (lv' := [(3, .int 0), (1, .long (smF (sumS (eC o)) (smF (sumC (eC o)) 17 13) (5 * knv (eC o)))), (0, .ref (adE d))]) hx hb dL_sum_69 rfl hl (by decide) rfl (fun ls hl => ?_)
          have K5 : ∀ (n6 j : Nat), j + n6 = 4 * knj (eC o) → ∀ (_ : Unit), ∀ (ls : Array Slot), lv_has ls 4 [(3, .int (nI j)), (1, .long (smF (sumJ (eC o)) (smF (sumS (eC o)) (smF (sumC (eC o)) 17 13) (5 * knv (eC o))) j)), (0, .ref (adE d))] → W p l e ({ frames := 5, cells := 0, slots := 0, locals := 143 } : Room) s m ([.ref (adE d)] : List Value).toArray below meth cd s.heap [] 0 0 (MQ below (vp_Sl (fun r => r = sumF (eC o))) ([.ref (adE d)] : List Value).toArray s 0 0 (fun _ => False)) (F0 m 70 ls []) := by
            intro n6
            induction n6 with
            | zero =>
              intro j hi_j _u ls hl
              have e_j : j = 4 * knj (eC o) := by omega
              subst e_j
              refine lv_iload_n hx hb dL_sum_70 rfl (lv_at hl 0 rfl) ?_
              refine lv_iconst (v := 4) hx hb dL_sum_71 (by decide) ?_
              refine lv_aload_n hx hb dL_sum_72 rfl (lv_at hl 2 rfl) ?_
              refine lv_iconst (v := 2) hx hb dL_sum_73 (by decide) ?_
              refine xpV (rest := [.int 4, .int (nI (4 * knj (eC o)))]) ⟨hx, hb, hml, hown, hts⟩ (x_count l G cI cQ d o hE 2) (cwV 1 hts gL_sum_X4_count rfl rfl rfl cd_X4_count ⟨Nat.le_of_ble_eq_true rfl, Nat.le_of_ble_eq_true rfl⟩) hK hP rfl hl.1 rfl (Nat.le_of_ble_eq_true rfl) dL_sum_74 ⟨Nat.le_of_ble_eq_true rfl, Nat.le_of_ble_eq_true rfl⟩ ?_
              refine lv_cvt (y := (nI (knj (eC o)))) (rfl) ?_
              refine lv_imul hx hb dL_sum_77 ?_
              refine lv_cvt (y := (nI (4 * knj (eC o)))) (pk_mul 4 _) ?_
              refine lv_icmp_ge (tgt := 105) hx hb dL_sum_78 (by decide) (fun _ => ?_) (fun c => False.elim (c (Int32.le_refl _)))
              refine lv_lload_n hx hb dL_sum_105 rfl (lv_at hl 1 rfl) ?_
              exact p_lret hx hb hr hlocks (rfl) dL_sum_106
            | succ n6 ih_j =>
              intro j hi_j _u ls hl
              have lt_j : j < 4 * knj (eC o) := by omega
              refine lv_iload_n hx hb dL_sum_70 rfl (lv_at hl 0 rfl) ?_
              refine lv_iconst (v := 4) hx hb dL_sum_71 (by decide) ?_
              refine lv_aload_n hx hb dL_sum_72 rfl (lv_at hl 2 rfl) ?_
              refine lv_iconst (v := 2) hx hb dL_sum_73 (by decide) ?_
              refine xpV (rest := [.int 4, .int (nI j)]) ⟨hx, hb, hml, hown, hts⟩ (x_count l G cI cQ d o hE 2) (cwV 1 hts gL_sum_X4_count rfl rfl rfl cd_X4_count ⟨Nat.le_of_ble_eq_true rfl, Nat.le_of_ble_eq_true rfl⟩) hK hP rfl hl.1 rfl (Nat.le_of_ble_eq_true rfl) dL_sum_74 ⟨Nat.le_of_ble_eq_true rfl, Nat.le_of_ble_eq_true rfl⟩ ?_
              refine lv_cvt (y := (nI (knj (eC o)))) (rfl) ?_
              refine lv_imul hx hb dL_sum_77 ?_
              refine lv_cvt (y := (nI (4 * knj (eC o)))) (pk_mul 4 _) ?_
              refine lv_icmp_ge (tgt := 105) hx hb dL_sum_78 (by decide) (fun c => False.elim (nI_ge lt_j (by omega) c)) (fun _ => ?_)
              refine lv_ldc2 (v := 31) hx hb hown (hts _ lk_L_sum_2) dL_sum_81 ?_
              refine lv_lload_n hx hb dL_sum_84 rfl (lv_at hl 1 rfl) ?_
              refine lv_lmul hx hb dL_sum_85 ?_
              refine lv_aload_n hx hb dL_sum_86 rfl (lv_at hl 2 rfl) ?_
              refine lv_iload_n hx hb dL_sum_87 rfl (lv_at hl 0 rfl) ?_
              refine lv_iconst (v := 4) hx hb dL_sum_88 (by decide) ?_
              refine lv_idiv hx hb dL_sum_89 (by decide) ?_
              refine lv_cvt (y := (nI (j / 4))) (pk_div (by omega) (by decide) (by decide)) ?_
              refine lv_iload_n hx hb dL_sum_90 rfl (lv_at hl 0 rfl) ?_
              refine lv_iconst (v := 4) hx hb dL_sum_91 (by decide) ?_
              refine lv_irem hx hb dL_sum_92 (by decide) ?_
              refine lv_cvt (y := (nI (j % 4))) (pk_rem (by omega) (by decide) (by decide)) ?_
              refine xpV (rest := [.long (31 * (smF (sumJ (eC o)) (smF (sumS (eC o)) (smF (sumC (eC o)) 17 13) (5 * knv (eC o))) j))]) ⟨hx, hb, hml, hown, hts⟩ (x_job l G cI cQ d o hE (nI (j / 4)) (nI (j % 4))) (cwV 2 hts gL_sum_X4_job rfl rfl rfl cd_X4_job ⟨Nat.le_of_ble_eq_true rfl, Nat.le_of_ble_eq_true rfl⟩) hK hP rfl hl.1 rfl (Nat.le_of_ble_eq_true rfl) dL_sum_93 ⟨Nat.le_of_ble_eq_true rfl, Nat.le_of_ble_eq_true rfl⟩ ?_
              refine lv_cvt (y := (sumJ (eC o) j)) (rfl) ?_
              refine lv_i2l (v := ((sumJ (eC o) j).toInt64)) hx hb dL_sum_96 rfl ?_
              refine lv_ladd hx hb dL_sum_97 ?_
              refine lv_lstore_n (lv' := [(1, .long ((31 * (smF (sumJ (eC o)) (smF (sumS (eC o)) (smF (sumC (eC o)) 17 13) (5 * knv (eC o))) j)) + ((sumJ (eC o) j).toInt64))), (3, .int (nI j)), (0, .ref (adE d))]) hx hb dL_sum_98 rfl hl (by decide) rfl (fun ls hl => ?_)
              refine lv_iinc (v := (nI (j + 1))) (lv' := [(3, .int (nI (j + 1))), (1, .long ((31 * (smF (sumJ (eC o)) (smF (sumS (eC o)) (smF (sumC (eC o)) 17 13) (5 * knv (eC o))) j)) + ((sumJ (eC o) j).toInt64))), (0, .ref (adE d))]) hx hb dL_sum_99 hl (k := 1) rfl (nI_1 j) (by decide) rfl (fun ls hl => ?_)
              refine lv_goto (tgt := 70) hx hb dL_sum_102 (by decide) ?_
              exact ih_j (j + 1) (by omega) () ls hl
          exact K5 (4 * knj (eC o)) 0 (by omega) () _ hl
        | succ n4 ih_k =>
          intro k hi_k _u ls hl
          have lt_k : k < 5 * knv (eC o) := by omega
          refine lv_iload_n hx hb dL_sum_33 rfl (lv_at hl 0 rfl) ?_
          refine lv_iconst (v := 5) hx hb dL_sum_34 (by decide) ?_
          refine lv_aload_n hx hb dL_sum_35 rfl (lv_at hl 2 rfl) ?_
          refine lv_iconst (v := 0) hx hb dL_sum_36 (by decide) ?_
          refine xpV (rest := [.int 5, .int (nI k)]) ⟨hx, hb, hml, hown, hts⟩ (x_count l G cI cQ d o hE 0) (cwV 1 hts gL_sum_X4_count rfl rfl rfl cd_X4_count ⟨Nat.le_of_ble_eq_true rfl, Nat.le_of_ble_eq_true rfl⟩) hK hP rfl hl.1 rfl (Nat.le_of_ble_eq_true rfl) dL_sum_37 ⟨Nat.le_of_ble_eq_true rfl, Nat.le_of_ble_eq_true rfl⟩ ?_
          refine lv_cvt (y := (nI (knv (eC o)))) (rfl) ?_
          refine lv_imul hx hb dL_sum_40 ?_
          refine lv_cvt (y := (nI (5 * knv (eC o)))) (pk_mul 5 _) ?_
          refine lv_icmp_ge (tgt := 68) hx hb dL_sum_41 (by decide) (fun c => False.elim (nI_ge lt_k (by omega) c)) (fun _ => ?_)
          refine lv_ldc2 (v := 31) hx hb hown (hts _ lk_L_sum_2) dL_sum_44 ?_
          refine lv_lload_n hx hb dL_sum_47 rfl (lv_at hl 1 rfl) ?_
          refine lv_lmul hx hb dL_sum_48 ?_
          refine lv_aload_n hx hb dL_sum_49 rfl (lv_at hl 2 rfl) ?_
          refine lv_iload_n hx hb dL_sum_50 rfl (lv_at hl 0 rfl) ?_
          refine lv_iconst (v := 5) hx hb dL_sum_51 (by decide) ?_
          refine lv_idiv hx hb dL_sum_52 (by decide) ?_
          refine lv_cvt (y := (nI (k / 5))) (pk_div (by omega) (by decide) (by decide)) ?_
          refine lv_iload_n hx hb dL_sum_53 rfl (lv_at hl 0 rfl) ?_
          refine lv_iconst (v := 5) hx hb dL_sum_54 (by decide) ?_
          refine lv_irem hx hb dL_sum_55 (by decide) ?_
          refine lv_cvt (y := (nI (k % 5))) (pk_rem (by omega) (by decide) (by decide)) ?_
          refine xpV (rest := [.long (31 * (smF (sumS (eC o)) (smF (sumC (eC o)) 17 13) k))]) ⟨hx, hb, hml, hown, hts⟩ (x_server l G cI cQ d o hE (nI (k / 5)) (nI (k % 5))) (cwV 2 hts gL_sum_X4_server rfl rfl rfl cd_X4_server ⟨Nat.le_of_ble_eq_true rfl, Nat.le_of_ble_eq_true rfl⟩) hK hP rfl hl.1 rfl (Nat.le_of_ble_eq_true rfl) dL_sum_56 ⟨Nat.le_of_ble_eq_true rfl, Nat.le_of_ble_eq_true rfl⟩ ?_
          refine lv_cvt (y := (sumS (eC o) k)) (rfl) ?_
          refine lv_i2l (v := ((sumS (eC o) k).toInt64)) hx hb dL_sum_59 rfl ?_
          refine lv_ladd hx hb dL_sum_60 ?_
          refine lv_lstore_n (lv' := [(1, .long ((31 * (smF (sumS (eC o)) (smF (sumC (eC o)) 17 13) k)) + ((sumS (eC o) k).toInt64))), (3, .int (nI k)), (0, .ref (adE d))]) hx hb dL_sum_61 rfl hl (by decide) rfl (fun ls hl => ?_)
          refine lv_iinc (v := (nI (k + 1))) (lv' := [(3, .int (nI (k + 1))), (1, .long ((31 * (smF (sumS (eC o)) (smF (sumC (eC o)) 17 13) k)) + ((sumS (eC o) k).toInt64))), (0, .ref (adE d))]) hx hb dL_sum_62 hl (k := 1) rfl (nI_1 k) (by decide) rfl (fun ls hl => ?_)
          refine lv_goto (tgt := 33) hx hb dL_sum_65 (by decide) ?_
          exact ih_k (k + 1) (by omega) () ls hl
      exact K3 (5 * knv (eC o)) 0 (by omega) () _ hl
    | succ n2 ih_i =>
      intro i hi_i _u ls hl
      have lt_i : i < 13 := by omega
      refine lv_iload_n hx hb dL_sum_6 rfl (lv_at hl 0 rfl) ?_
      refine lv_bipush (v := 13) hx hb dL_sum_7 (by decide) ?_
      refine lv_cvt (y := (nI 13)) (rfl) ?_
      refine lv_icmp_ge (tgt := 31) hx hb dL_sum_9 (by decide) (fun c => False.elim (nI_ge lt_i (by omega) c)) (fun _ => ?_)
      refine lv_ldc2 (v := 31) hx hb hown (hts _ lk_L_sum_2) dL_sum_12 ?_
      refine lv_lload_n hx hb dL_sum_15 rfl (lv_at hl 1 rfl) ?_
      refine lv_lmul hx hb dL_sum_16 ?_
      refine lv_aload_n hx hb dL_sum_17 rfl (lv_at hl 2 rfl) ?_
      refine lv_iload_n hx hb dL_sum_18 rfl (lv_at hl 0 rfl) ?_
      refine xpV (rest := [.long (31 * (smF (sumC (eC o)) 17 i))]) ⟨hx, hb, hml, hown, hts⟩ (x_count l G cI cQ d o hE (nI i)) (cwV 1 hts gL_sum_X4_count rfl rfl rfl cd_X4_count ⟨Nat.le_of_ble_eq_true rfl, Nat.le_of_ble_eq_true rfl⟩) hK hP rfl hl.1 rfl (Nat.le_of_ble_eq_true rfl) dL_sum_19 ⟨Nat.le_of_ble_eq_true rfl, Nat.le_of_ble_eq_true rfl⟩ ?_
      refine lv_cvt (y := (sumC (eC o) i)) (sumC_eq _ _ _ i lt_i) ?_
      refine lv_i2l (v := ((sumC (eC o) i).toInt64)) hx hb dL_sum_22 rfl ?_
      refine lv_ladd hx hb dL_sum_23 ?_
      refine lv_lstore_n (lv' := [(1, .long ((31 * (smF (sumC (eC o)) 17 i)) + ((sumC (eC o) i).toInt64))), (3, .int (nI i)), (0, .ref (adE d))]) hx hb dL_sum_24 rfl hl (by decide) rfl (fun ls hl => ?_)
      refine lv_iinc (v := (nI (i + 1))) (lv' := [(3, .int (nI (i + 1))), (1, .long ((31 * (smF (sumC (eC o)) 17 i)) + ((sumC (eC o) i).toInt64))), (0, .ref (adE d))]) hx hb dL_sum_25 hl (k := 1) rfl (nI_1 i) (by decide) rfl (fun ls hl => ?_)
      refine lv_goto (tgt := 6) hx hb dL_sum_28 (by decide) ?_
      exact ih_i (i + 1) (by omega) () ls hl
  exact K1 (13) 0 (by omega) () _ hl
theorem cd_L_sum : yL_sum.cls = RL ∧ yL_sum.cls ≠ "java/lang/invoke/MethodHandle" ∧ yL_sum.cls ≠ "java/lang/invoke/VarHandle" ∧ (parseMethodDescriptor yL_sum.desc).map (fun d => d.parameters.length) = some 1 := by decide +kernel
