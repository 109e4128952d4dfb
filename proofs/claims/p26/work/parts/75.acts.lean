theorem P_nil {G : va_G} {H : Heap} : va_P G vwCl [] H := fun k q h => by simp at h
theorem on_1 {c : CS} {k : Nat} : nI (oN c k) = 1 ↔ kop c k = 1 := by
  unfold oN
  by_cases g : kop c k = 1
  · rw [if_pos g]
    exact ⟨fun _ => g, fun _ => rfl⟩
  · rw [if_neg g]
    exact ⟨fun q => absurd q (by decide), fun q => absurd q g⟩
theorem ne2 {n : Nat} (h : n < 2 ^ 31) : ¬ nI n = -2 := by
  intro e
  have h2 := nI_pos (n := n) h
  rw [e] at h2
  exact h2 (by decide)
set_option maxHeartbeats 20000000 in
set_option maxRecDepth 100000 in
theorem c_L_acts (l : Launch) (G : va_G) (cI cQ : ClassId) (d : AD) (o : ES) (hE : EI o) (hv0 : 0 < knv (eC o)) (kd : Nat) (hkd : kd < 18) (v0 w0 : Int32) (sz0 : Nat) : Met l yL_acts wsL_acts ({ frames := 7, cells := 0, slots := 0, locals := 188 } : Room) (mPc G cI cQ [.ref (adE d), .int (nI kd), .int v0, .int w0] (XW cI cQ d o) sz0) (va_Qi (fun (r : Int32) (u : ES) => r = 1 ∧ (EI u ∧ 0 < knv (eC u))) (mB G (va_A (XW cI cQ d o) sz0) (XW cI cQ d)) (va_A (XW cI cQ d o) sz0)) 0 0 (va_A (XW cI cQ d o) sz0) := by
  refine mm_of (cc := cL_acts) (maxL := 16) (ret := (some .boolean)) (own := RL) (by decide) rfl rfl (Nat.le_of_ble_eq_true rfl) rfl ?_
  intro p e s m below meth cd ls A hx hb hr hts hown hlocks hml hA hK hP hD hS hl
  have w := hE.1
  have hj24 := ci_nj w.1
  have hv6 := ci_nv w.1
  have hq_o := q_rf hE
  have hc_o : eC o = eC o := rfl
  have b4 := w.2.2
  revert hP hD hS
  suffices hall : ∀ (H : Heap) (locs : List Loc), va_P G vwCl (XW cI cQ d o) H → va_D A (XW cI cQ d o) → va_S A s.heap H locs → W p l e ({ frames := 7, cells := 0, slots := 0, locals := 188 } : Room) s m ([.ref (adE d), .int (nI kd), .int v0, .int w0] : List Value).toArray below meth cd H locs 0 0 (MQ below (va_Qi (fun (r : Int32) (u : ES) => r = 1 ∧ (EI u ∧ 0 < knv (eC u))) (mB G (A) (XW cI cQ d)) (A)) ([.ref (adE d), .int (nI kd), .int v0, .int w0] : List Value).toArray s 0 0 A) (F0 m 0 ls []) from fun hP hD hS => hall _ _ hP hD hS
  intro H locs hP hD hS
  refine lv_aload_n hx hb dL_acts_0 rfl (lv_at hl 0 rfl) ?_
  refine lv_iconst (v := 0) hx hb dL_acts_1 (by decide) ?_
  refine xpV (rest := []) ⟨hx, hb, hml, hown, hts⟩ (x_count l G cI cQ d o hE 0) (cwV 1 hts gL_acts_X4_count rfl rfl rfl cd_X4_count ⟨Nat.le_of_ble_eq_true rfl, Nat.le_of_ble_eq_true rfl⟩) hK hP rfl hl.1 rfl (Nat.le_of_ble_eq_true rfl) dL_acts_2 ⟨Nat.le_of_ble_eq_true rfl, Nat.le_of_ble_eq_true rfl⟩ ?_
  refine lv_cvt (y := (nI (knv (eC o)))) (rfl) ?_
  refine lv_istore (lv' := [(4, .int (nI (knv (eC o)))), (0, .ref (adE d)), (1, .int (nI kd)), (2, .int v0), (3, .int w0)]) hx hb dL_acts_5 hl (by decide) rfl (fun ls hl => ?_)
  refine lv_aload_n hx hb dL_acts_7 rfl (lv_at hl 1 rfl) ?_
  refine lv_iconst (v := 2) hx hb dL_acts_8 (by decide) ?_
  refine xpV (rest := []) ⟨hx, hb, hml, hown, hts⟩ (x_count l G cI cQ d o hE 2) (cwV 1 hts gL_acts_X4_count rfl rfl rfl cd_X4_count ⟨Nat.le_of_ble_eq_true rfl, Nat.le_of_ble_eq_true rfl⟩) hK hP rfl hl.1 rfl (Nat.le_of_ble_eq_true rfl) dL_acts_9 ⟨Nat.le_of_ble_eq_true rfl, Nat.le_of_ble_eq_true rfl⟩ ?_
  refine lv_cvt (y := (nI (knj (eC o)))) (rfl) ?_
  refine lv_istore (lv' := [(5, .int (nI (knj (eC o)))), (4, .int (nI (knv (eC o)))), (0, .ref (adE d)), (1, .int (nI kd)), (2, .int v0), (3, .int w0)]) hx hb dL_acts_12 hl (by decide) rfl (fun ls hl => ?_)
  refine lv_iload_n hx hb dL_acts_14 rfl (lv_at hl 5 rfl) ?_
  refine lv_iload hx hb dL_acts_15 (lv_at hl 1 rfl) ?_
  refine xpS (rest := []) ⟨hx, hb, hml, hown, hts⟩ (c_L_low l G cI cQ d w0 (knv (eC o)) hv0 (by omega)) (cwS 2 hts gL_acts_L_low rfl rfl rfl cd_L_low ⟨Nat.le_of_ble_eq_true rfl, Nat.le_of_ble_eq_true rfl⟩) hK P_nil rfl hl.1 rfl (Nat.le_of_ble_eq_true rfl) dL_acts_17 ⟨Nat.le_of_ble_eq_true rfl, Nat.le_of_ble_eq_true rfl⟩ (fun r_k hr_k => ?_)
  obtain ⟨k, hk, e_k⟩ := hr_k
  subst e_k
  have k6 := ci_v w.1 hk
  refine lv_istore (lv' := [(6, .int (nI k)), (5, .int (nI (knj (eC o)))), (4, .int (nI (knv (eC o)))), (0, .ref (adE d)), (1, .int (nI kd)), (2, .int v0), (3, .int w0)]) hx hb dL_acts_20 hl (by decide) rfl (fun ls hl => ?_)
  have K65 : ∀ (a : Nat), 1 ≤ a → a ≤ 1000 → ∀ (ls : Array Slot), lv_has ls 16 [(6, .int (nI k)), (5, .int (nI (knj (eC o)))), (4, .int (nI (knv (eC o)))), (0, .ref (adE d)), (1, .int (nI kd)), (2, .int v0), (3, .int w0)] → W p l e ({ frames := 7, cells := 0, slots := 0, locals := 188 } : Room) s m ([.ref (adE d), .int (nI kd), .int v0, .int w0] : List Value).toArray below meth cd H locs 0 0 (MQ below (va_Qi (fun (r : Int32) (u : ES) => r = 1 ∧ (EI u ∧ 0 < knv (eC u))) (mB G (A) (XW cI cQ d)) (A)) ([.ref (adE d), .int (nI kd), .int v0, .int w0] : List Value).toArray s 0 0 A) (F0 m 65 ls [.int (nI a)]) := by
    intro a ha1 ha2 ls hl
    refine lv_istore (lv' := [(7, .int (nI a)), (6, .int (nI k)), (5, .int (nI (knj (eC o)))), (4, .int (nI (knv (eC o)))), (0, .ref (adE d)), (1, .int (nI kd)), (2, .int v0), (3, .int w0)]) hx hb dL_acts_65 hl (by decide) rfl (fun ls hl => ?_)
    refine lv_aload_n hx hb dL_acts_67 rfl (lv_at hl 4 rfl) ?_
    refine lv_iload hx hb dL_acts_68 (lv_at hl 1 rfl) ?_
    refine lv_iconst (v := 0) hx hb dL_acts_70 (by decide) ?_
    refine xpV (rest := []) ⟨hx, hb, hml, hown, hts⟩ (x_server l G cI cQ d o hE (nI k) 0) (cwV 2 hts gL_acts_X4_server rfl rfl rfl cd_X4_server ⟨Nat.le_of_ble_eq_true rfl, Nat.le_of_ble_eq_true rfl⟩) hK hP rfl hl.1 rfl (Nat.le_of_ble_eq_true rfl) dL_acts_71 ⟨Nat.le_of_ble_eq_true rfl, Nat.le_of_ble_eq_true rfl⟩ ?_
    by_cases ko : kop (eC o) k = 1
    · skip
      refine lv_cvt (y := 1) ((vs0 w.1 hk).trans (congrArg nI (if_pos ko))) ?_
      refine lv_iconst (v := 1) hx hb dL_acts_74 (by decide) ?_
      refine lv_icmp_ne (tgt := 82) hx hb dL_acts_75 (by decide) (fun c => absurd c (by decide)) (fun _ => ?_)
      refine lv_iconst (v := 1) hx hb dL_acts_78 (by decide) ?_
      refine lv_goto (tgt := 83) hx hb dL_acts_79 (by decide) ?_
      refine lv_istore (lv' := [(8, .int 1), (7, .int (nI a)), (6, .int (nI k)), (5, .int (nI (knj (eC o)))), (4, .int (nI (knv (eC o)))), (0, .ref (adE d)), (1, .int (nI kd)), (2, .int v0), (3, .int w0)]) hx hb dL_acts_83 hl (by decide) rfl (fun ls hl => ?_)
      refine lv_aload_n hx hb dL_acts_85 rfl (lv_at hl 5 rfl) ?_
      refine lv_iload hx hb dL_acts_86 (lv_at hl 2 rfl) ?_
      refine lv_iconst (v := 1) hx hb dL_acts_88 (by decide) ?_
      refine xpV (rest := []) ⟨hx, hb, hml, hown, hts⟩ (x_server l G cI cQ d o hE (nI k) 1) (cwV 2 hts gL_acts_X4_server rfl rfl rfl cd_X4_server ⟨Nat.le_of_ble_eq_true rfl, Nat.le_of_ble_eq_true rfl⟩) hK hP rfl hl.1 rfl (Nat.le_of_ble_eq_true rfl) dL_acts_89 ⟨Nat.le_of_ble_eq_true rfl, Nat.le_of_ble_eq_true rfl⟩ ?_
      refine lv_cvt (y := (nI (loadN (eC o) k))) (vs1 w.1 hk) ?_
      refine lv_istore (lv' := [(9, .int (nI (loadN (eC o) k))), (8, .int 1), (7, .int (nI a)), (6, .int (nI k)), (5, .int (nI (knj (eC o)))), (4, .int (nI (knv (eC o)))), (0, .ref (adE d)), (1, .int (nI kd)), (2, .int v0), (3, .int w0)]) hx hb dL_acts_92 hl (by decide) rfl (fun ls hl => ?_)
      refine lv_aload_n hx hb dL_acts_94 rfl (lv_at hl 6 rfl) ?_
      refine lv_iload hx hb dL_acts_95 (lv_at hl 2 rfl) ?_
      refine lv_iload_n hx hb dL_acts_97 rfl (lv_at hl 9 rfl) ?_
      refine lv_iconst (v := 4) hx hb dL_acts_98 (by decide) ?_
      refine lv_ishr hx hb dL_acts_99 ?_
      refine lv_bipush (v := 101) hx hb dL_acts_100 (by decide) ?_
      refine xpS (rest := [.int (nI a), .ref (adE d)]) ⟨hx, hb, hml, hown, hts⟩ (c_L_low l G cI cQ d (w0 >>> (4 &&& 31)) 101 (by decide) (by omega)) (cwS 2 hts gL_acts_L_low rfl rfl rfl cd_L_low ⟨Nat.le_of_ble_eq_true rfl, Nat.le_of_ble_eq_true rfl⟩) hK P_nil rfl hl.1 rfl (Nat.le_of_ble_eq_true rfl) dL_acts_102 ⟨Nat.le_of_ble_eq_true rfl, Nat.le_of_ble_eq_true rfl⟩ (fun r_pb hr_pb => ?_)
      obtain ⟨pb, hpb, e_pb⟩ := hr_pb
      subst e_pb
      refine lv_iload hx hb dL_acts_105 (lv_at hl 3 rfl) ?_
      refine xmV (rest := []) ⟨hx, hb, hml, hown, hts⟩ (x_add l G cI cQ d o hE (nI a) (nI pb) (nI k) _) (cwV 3 hts gL_acts_X4_add rfl rfl rfl cd_X4_add ⟨Nat.le_of_ble_eq_true rfl, Nat.le_of_ble_eq_true rfl⟩) hK hP hD hS hA rfl hl.1 rfl (Nat.le_of_ble_eq_true rfl) dL_acts_107 ⟨Nat.le_of_ble_eq_true rfl, Nat.le_of_ble_eq_true rfl⟩ (fun o1 H locs ho1 hP hD hS => ?_)
      rcases add_sp w ha1 ha2 (show pb ≤ 100 by omega) hk with ⟨g, em⟩ | ⟨g, h24, em⟩ | ⟨g, h24, em, wm, ml⟩
      · skip
        exact absurd ko g
      · skip
        have hr_o1 : (fNewJob (eC o) (nI a) (nI pb) (nI k)) = (-3, eC o) := by rw [hc_o]; exact em
        have hq_o1 : qE o o1 := q_act hE hr_o1 (by decide) ho1
        have hE_o1 := hq_o1.1
        have hc_o1 : eC o1 = eC o := hq_o1.2.1.trans hc_o
        refine lv_cvt (y := -3) (congrArg Prod.fst hr_o1) ?_
        refine lv_istore (lv' := [(10, .int (-3)), (9, .int (nI (loadN (eC o) k))), (8, .int 1), (7, .int (nI a)), (6, .int (nI k)), (5, .int (nI (knj (eC o)))), (4, .int (nI (knv (eC o)))), (0, .ref (adE d)), (1, .int (nI kd)), (2, .int v0), (3, .int w0)]) hx hb dL_acts_110 hl (by decide) rfl (fun ls hl => ?_)
        refine lv_iload hx hb dL_acts_112 (lv_at hl 0 rfl) ?_
        refine lv_iload hx hb dL_acts_114 (lv_at hl 2 rfl) ?_
        refine lv_if_ne (tgt := 124) hx hb dL_acts_116 (by decide) (fun _ => ?_) (fun c => absurd c (by decide))
        refine lv_iload hx hb dL_acts_124 (lv_at hl 5 rfl) ?_
        refine lv_bipush (v := 24) hx hb dL_acts_126 (by decide) ?_
        refine lv_icmp_ne (tgt := 136) hx hb dL_acts_128 (by decide) (fun c => False.elim (c (congrArg nI h24))) (fun _ => ?_)
        refine lv_bipush (v := (-3)) hx hb dL_acts_131 (by decide) ?_
        refine lv_goto (tgt := 138) hx hb dL_acts_133 (by decide) ?_
        refine lv_icmp_ne (tgt := 169) hx hb dL_acts_138 (by decide) (fun c => False.elim (c rfl)) (fun _ => ?_)
        refine lv_aload_n hx hb dL_acts_141 rfl (lv_at hl 7 rfl) ?_
        refine lv_iload hx hb dL_acts_142 (lv_at hl 4 rfl) ?_
        refine lv_iconst (v := 1) hx hb dL_acts_144 (by decide) ?_
        refine xpV (rest := []) ⟨hx, hb, hml, hown, hts⟩ (x_server l G cI cQ d o1 hE_o1 (nI k) 1) (cwV 2 hts gL_acts_X4_server rfl rfl rfl cd_X4_server ⟨Nat.le_of_ble_eq_true rfl, Nat.le_of_ble_eq_true rfl⟩) hK hP rfl hl.1 rfl (Nat.le_of_ble_eq_true rfl) dL_acts_145 ⟨Nat.le_of_ble_eq_true rfl, Nat.le_of_ble_eq_true rfl⟩ ?_
        refine lv_cvt (y := (nI (loadN (eC o) k))) (by rw [hc_o1]; exact vs1 w.1 hk) ?_
        refine lv_iload hx hb dL_acts_148 (lv_at hl 1 rfl) ?_
        refine lv_iload hx hb dL_acts_150 (lv_at hl 0 rfl) ?_
        refine lv_if_lt (tgt := 160) hx hb dL_acts_152 (by decide) (fun _ => ?_) (fun c => False.elim (c (by decide)))
        refine lv_iconst (v := 0) hx hb dL_acts_160 (by decide) ?_
        refine lv_iadd hx hb dL_acts_161 ?_
        refine lv_cvt (y := (nI (loadN (eC o) k))) (Int32.add_zero _) ?_
        refine lv_icmp_ne (tgt := 169) hx hb dL_acts_162 (by decide) (fun c => False.elim (c rfl)) (fun _ => ?_)
        refine lv_iconst (v := 1) hx hb dL_acts_165 (by decide) ?_
        refine lv_goto (tgt := 170) hx hb dL_acts_166 (by decide) ?_
        exact m_ret (ty := .boolean) o1 hx hb hr hlocks rfl ⟨rfl, ⟨hE_o1, (by rw [hc_o1]; exact hv0)⟩⟩ hP hD hS dL_acts_170
      · skip
        have hr_o1 : (fNewJob (eC o) (nI a) (nI pb) (nI k)) = (nI (knj (eC o)), (sNewJob (eC o) (nI a) (nI pb) (nI k))) := by rw [hc_o]; exact em
        have hE_o1 : EI o1 := ei_act hE (by rw [hr_o1]; exact wm) ho1
        have hc_o1 : eC o1 = (sNewJob (eC o) (nI a) (nI pb) (nI k)) := by rw [ho1]; exact congrArg Prod.snd hr_o1
        have hh_o1 := hh_act (o := o) (by rw [hr_o1]; exact nI_pos (by omega)) ho1
        refine lv_cvt (y := nI (knj (eC o))) (congrArg Prod.fst hr_o1) ?_
        refine lv_istore (lv' := [(10, .int (nI (knj (eC o)))), (9, .int (nI (loadN (eC o) k))), (8, .int 1), (7, .int (nI a)), (6, .int (nI k)), (5, .int (nI (knj (eC o)))), (4, .int (nI (knv (eC o)))), (0, .ref (adE d)), (1, .int (nI kd)), (2, .int v0), (3, .int w0)]) hx hb dL_acts_110 hl (by decide) rfl (fun ls hl => ?_)
        refine lv_iload hx hb dL_acts_112 (lv_at hl 0 rfl) ?_
        refine lv_iload hx hb dL_acts_114 (lv_at hl 2 rfl) ?_
        refine lv_if_ne (tgt := 124) hx hb dL_acts_116 (by decide) (fun _ => ?_) (fun c => absurd c (by decide))
        refine lv_iload hx hb dL_acts_124 (lv_at hl 5 rfl) ?_
        refine lv_bipush (v := 24) hx hb dL_acts_126 (by decide) ?_
        refine lv_icmp_ne (tgt := 136) hx hb dL_acts_128 (by decide) (fun _ => ?_) (fun c => False.elim (absurd ((nI_eq (b := 24) (by omega) (by decide)).mp c) (by omega)))
        refine lv_iload hx hb dL_acts_136 (lv_at hl 5 rfl) ?_
        refine lv_icmp_ne (tgt := 169) hx hb dL_acts_138 (by decide) (fun c => False.elim (c rfl)) (fun _ => ?_)
        refine lv_aload_n hx hb dL_acts_141 rfl (lv_at hl 7 rfl) ?_
        refine lv_iload hx hb dL_acts_142 (lv_at hl 4 rfl) ?_
        refine lv_iconst (v := 1) hx hb dL_acts_144 (by decide) ?_
        refine xpV (rest := []) ⟨hx, hb, hml, hown, hts⟩ (x_server l G cI cQ d o1 hE_o1 (nI k) 1) (cwV 2 hts gL_acts_X4_server rfl rfl rfl cd_X4_server ⟨Nat.le_of_ble_eq_true rfl, Nat.le_of_ble_eq_true rfl⟩) hK hP rfl hl.1 rfl (Nat.le_of_ble_eq_true rfl) dL_acts_145 ⟨Nat.le_of_ble_eq_true rfl, Nat.le_of_ble_eq_true rfl⟩ ?_
        refine lv_cvt (y := (nI (loadN (eC o) k + a))) (by rw [hc_o1]; exact (vs1 wm.1 hk).trans (congrArg nI ml)) ?_
        refine lv_iload hx hb dL_acts_148 (lv_at hl 1 rfl) ?_
        refine lv_iload hx hb dL_acts_150 (lv_at hl 0 rfl) ?_
        refine lv_if_lt (tgt := 160) hx hb dL_acts_152 (by decide) (fun c => False.elim (nI_pos (by omega) c)) (fun _ => ?_)
        refine lv_iload hx hb dL_acts_155 (lv_at hl 3 rfl) ?_
        refine lv_goto (tgt := 161) hx hb dL_acts_157 (by decide) ?_
        refine lv_iadd hx hb dL_acts_161 ?_
        refine lv_cvt (y := (nI (loadN (eC o) k + a))) (nI_add _ _) ?_
        refine lv_icmp_ne (tgt := 169) hx hb dL_acts_162 (by decide) (fun c => False.elim (c rfl)) (fun _ => ?_)
        refine lv_iconst (v := 1) hx hb dL_acts_165 (by decide) ?_
        refine lv_goto (tgt := 170) hx hb dL_acts_166 (by decide) ?_
        exact m_ret (ty := .boolean) o1 hx hb hr hlocks rfl ⟨rfl, ⟨hE_o1, (by rw [hc_o1]; exact hv0)⟩⟩ hP hD hS dL_acts_170
    · skip
      refine lv_cvt (y := 0) ((vs0 w.1 hk).trans (congrArg nI (if_neg ko))) ?_
      refine lv_iconst (v := 1) hx hb dL_acts_74 (by decide) ?_
      refine lv_icmp_ne (tgt := 82) hx hb dL_acts_75 (by decide) (fun _ => ?_) (fun c => absurd c (by decide))
      refine lv_iconst (v := 0) hx hb dL_acts_82 (by decide) ?_
      refine lv_istore (lv' := [(8, .int 0), (7, .int (nI a)), (6, .int (nI k)), (5, .int (nI (knj (eC o)))), (4, .int (nI (knv (eC o)))), (0, .ref (adE d)), (1, .int (nI kd)), (2, .int v0), (3, .int w0)]) hx hb dL_acts_83 hl (by decide) rfl (fun ls hl => ?_)
      refine lv_aload_n hx hb dL_acts_85 rfl (lv_at hl 5 rfl) ?_
      refine lv_iload hx hb dL_acts_86 (lv_at hl 2 rfl) ?_
      refine lv_iconst (v := 1) hx hb dL_acts_88 (by decide) ?_
      refine xpV (rest := []) ⟨hx, hb, hml, hown, hts⟩ (x_server l G cI cQ d o hE (nI k) 1) (cwV 2 hts gL_acts_X4_server rfl rfl rfl cd_X4_server ⟨Nat.le_of_ble_eq_true rfl, Nat.le_of_ble_eq_true rfl⟩) hK hP rfl hl.1 rfl (Nat.le_of_ble_eq_true rfl) dL_acts_89 ⟨Nat.le_of_ble_eq_true rfl, Nat.le_of_ble_eq_true rfl⟩ ?_
      refine lv_cvt (y := (nI (loadN (eC o) k))) (vs1 w.1 hk) ?_
      refine lv_istore (lv' := [(9, .int (nI (loadN (eC o) k))), (8, .int 0), (7, .int (nI a)), (6, .int (nI k)), (5, .int (nI (knj (eC o)))), (4, .int (nI (knv (eC o)))), (0, .ref (adE d)), (1, .int (nI kd)), (2, .int v0), (3, .int w0)]) hx hb dL_acts_92 hl (by decide) rfl (fun ls hl => ?_)
      refine lv_aload_n hx hb dL_acts_94 rfl (lv_at hl 6 rfl) ?_
      refine lv_iload hx hb dL_acts_95 (lv_at hl 2 rfl) ?_
      refine lv_iload_n hx hb dL_acts_97 rfl (lv_at hl 9 rfl) ?_
      refine lv_iconst (v := 4) hx hb dL_acts_98 (by decide) ?_
      refine lv_ishr hx hb dL_acts_99 ?_
      refine lv_bipush (v := 101) hx hb dL_acts_100 (by decide) ?_
      refine xpS (rest := [.int (nI a), .ref (adE d)]) ⟨hx, hb, hml, hown, hts⟩ (c_L_low l G cI cQ d (w0 >>> (4 &&& 31)) 101 (by decide) (by omega)) (cwS 2 hts gL_acts_L_low rfl rfl rfl cd_L_low ⟨Nat.le_of_ble_eq_true rfl, Nat.le_of_ble_eq_true rfl⟩) hK P_nil rfl hl.1 rfl (Nat.le_of_ble_eq_true rfl) dL_acts_102 ⟨Nat.le_of_ble_eq_true rfl, Nat.le_of_ble_eq_true rfl⟩ (fun r_pb hr_pb => ?_)
      obtain ⟨pb, hpb, e_pb⟩ := hr_pb
      subst e_pb
      refine lv_iload hx hb dL_acts_105 (lv_at hl 3 rfl) ?_
      refine xmV (rest := []) ⟨hx, hb, hml, hown, hts⟩ (x_add l G cI cQ d o hE (nI a) (nI pb) (nI k) _) (cwV 3 hts gL_acts_X4_add rfl rfl rfl cd_X4_add ⟨Nat.le_of_ble_eq_true rfl, Nat.le_of_ble_eq_true rfl⟩) hK hP hD hS hA rfl hl.1 rfl (Nat.le_of_ble_eq_true rfl) dL_acts_107 ⟨Nat.le_of_ble_eq_true rfl, Nat.le_of_ble_eq_true rfl⟩ (fun o2 H locs ho2 hP hD hS => ?_)
      rcases add_sp w ha1 ha2 (show pb ≤ 100 by omega) hk with ⟨g, em⟩ | ⟨g, h24, em⟩ | ⟨g, h24, em, wm, ml⟩
      · skip
        have hr_o2 : (fNewJob (eC o) (nI a) (nI pb) (nI k)) = (-2, eC o) := by rw [hc_o]; exact em
        have hq_o2 : qE o o2 := q_act hE hr_o2 (by decide) ho2
        have hE_o2 := hq_o2.1
        have hc_o2 : eC o2 = eC o := hq_o2.2.1.trans hc_o
        refine lv_cvt (y := -2) (congrArg Prod.fst hr_o2) ?_
        refine lv_istore (lv' := [(10, .int (-2)), (9, .int (nI (loadN (eC o) k))), (8, .int 0), (7, .int (nI a)), (6, .int (nI k)), (5, .int (nI (knj (eC o)))), (4, .int (nI (knv (eC o)))), (0, .ref (adE d)), (1, .int (nI kd)), (2, .int v0), (3, .int w0)]) hx hb dL_acts_110 hl (by decide) rfl (fun ls hl => ?_)
        refine lv_iload hx hb dL_acts_112 (lv_at hl 0 rfl) ?_
        refine lv_iload hx hb dL_acts_114 (lv_at hl 2 rfl) ?_
        refine lv_if_ne (tgt := 124) hx hb dL_acts_116 (by decide) (fun c => absurd c (by decide)) (fun _ => ?_)
        refine lv_bipush (v := (-2)) hx hb dL_acts_119 (by decide) ?_
        refine lv_goto (tgt := 138) hx hb dL_acts_121 (by decide) ?_
        refine lv_icmp_ne (tgt := 169) hx hb dL_acts_138 (by decide) (fun c => False.elim (c rfl)) (fun _ => ?_)
        refine lv_aload_n hx hb dL_acts_141 rfl (lv_at hl 7 rfl) ?_
        refine lv_iload hx hb dL_acts_142 (lv_at hl 4 rfl) ?_
        refine lv_iconst (v := 1) hx hb dL_acts_144 (by decide) ?_
        refine xpV (rest := []) ⟨hx, hb, hml, hown, hts⟩ (x_server l G cI cQ d o2 hE_o2 (nI k) 1) (cwV 2 hts gL_acts_X4_server rfl rfl rfl cd_X4_server ⟨Nat.le_of_ble_eq_true rfl, Nat.le_of_ble_eq_true rfl⟩) hK hP rfl hl.1 rfl (Nat.le_of_ble_eq_true rfl) dL_acts_145 ⟨Nat.le_of_ble_eq_true rfl, Nat.le_of_ble_eq_true rfl⟩ ?_
        refine lv_cvt (y := (nI (loadN (eC o) k))) (by rw [hc_o2]; exact vs1 w.1 hk) ?_
        refine lv_iload hx hb dL_acts_148 (lv_at hl 1 rfl) ?_
        refine lv_iload hx hb dL_acts_150 (lv_at hl 0 rfl) ?_
        refine lv_if_lt (tgt := 160) hx hb dL_acts_152 (by decide) (fun _ => ?_) (fun c => False.elim (c (by decide)))
        refine lv_iconst (v := 0) hx hb dL_acts_160 (by decide) ?_
        refine lv_iadd hx hb dL_acts_161 ?_
        refine lv_cvt (y := (nI (loadN (eC o) k))) (Int32.add_zero _) ?_
        refine lv_icmp_ne (tgt := 169) hx hb dL_acts_162 (by decide) (fun c => False.elim (c rfl)) (fun _ => ?_)
        refine lv_iconst (v := 1) hx hb dL_acts_165 (by decide) ?_
        refine lv_goto (tgt := 170) hx hb dL_acts_166 (by decide) ?_
        exact m_ret (ty := .boolean) o2 hx hb hr hlocks rfl ⟨rfl, ⟨hE_o2, (by rw [hc_o2]; exact hv0)⟩⟩ hP hD hS dL_acts_170
      · skip
        exact absurd g ko
      · skip
        exact absurd g ko
  refine lv_iload_n hx hb dL_acts_22 rfl (lv_at hl 4 rfl) ?_
  refine lv_bipush (v := 6) hx hb dL_acts_23 (by decide) ?_
  refine lv_icmp_lt (tgt := 33) hx hb dL_acts_25 (by decide) (fun c25 => ?_) (fun c25 => ?_)
  · skip
    refine lv_iload_n hx hb dL_acts_33 rfl (lv_at hl 5 rfl) ?_
    refine lv_iconst (v := 3) hx hb dL_acts_34 (by decide) ?_
    refine xpS (rest := []) ⟨hx, hb, hml, hown, hts⟩ (c_L_low l G cI cQ d v0 3 (by decide) (by omega)) (cwS 2 hts gL_acts_L_low rfl rfl rfl cd_L_low ⟨Nat.le_of_ble_eq_true rfl, Nat.le_of_ble_eq_true rfl⟩) hK P_nil rfl hl.1 rfl (Nat.le_of_ble_eq_true rfl) dL_acts_35 ⟨Nat.le_of_ble_eq_true rfl, Nat.le_of_ble_eq_true rfl⟩ (fun r_s3 hr_s3 => ?_)
    obtain ⟨s3, hs3, e_s3⟩ := hr_s3
    subst e_s3
    refine lv_if_ne (tgt := 55) hx hb dL_acts_38 (by decide) (fun c38 => ?_) (fun c38 => ?_)
    · skip
      refine lv_iconst (v := 1) hx hb dL_acts_55 (by decide) ?_
      refine lv_iload_n hx hb dL_acts_56 rfl (lv_at hl 5 rfl) ?_
      refine lv_iconst (v := 2) hx hb dL_acts_57 (by decide) ?_
      refine lv_ishr hx hb dL_acts_58 ?_
      refine lv_bipush (v := 40) hx hb dL_acts_59 (by decide) ?_
      refine xpS (rest := [.int 1]) ⟨hx, hb, hml, hown, hts⟩ (c_L_low l G cI cQ d (v0 >>> (2 &&& 31)) 40 (by decide) (by omega)) (cwS 2 hts gL_acts_L_low rfl rfl rfl cd_L_low ⟨Nat.le_of_ble_eq_true rfl, Nat.le_of_ble_eq_true rfl⟩) hK P_nil rfl hl.1 rfl (Nat.le_of_ble_eq_true rfl) dL_acts_61 ⟨Nat.le_of_ble_eq_true rfl, Nat.le_of_ble_eq_true rfl⟩ (fun r_sb hr_sb => ?_)
      obtain ⟨sb, hsb, e_sb⟩ := hr_sb
      subst e_sb
      refine lv_iadd hx hb dL_acts_64 ?_
      refine lv_cvt (y := (nI (1 + sb))) (nI_add 1 sb) ?_
      exact K65 (1 + sb) (by omega) (by omega) ls hl
    · skip
      refine lv_iconst (v := 1) hx hb dL_acts_41 (by decide) ?_
      refine lv_iload_n hx hb dL_acts_42 rfl (lv_at hl 5 rfl) ?_
      refine lv_iconst (v := 2) hx hb dL_acts_43 (by decide) ?_
      refine lv_ishr hx hb dL_acts_44 ?_
      refine lv_sipush (v := 1000) hx hb dL_acts_45 (by decide) ?_
      refine xpS (rest := [.int 1]) ⟨hx, hb, hml, hown, hts⟩ (c_L_low l G cI cQ d (v0 >>> (2 &&& 31)) 1000 (by decide) (by omega)) (cwS 2 hts gL_acts_L_low rfl rfl rfl cd_L_low ⟨Nat.le_of_ble_eq_true rfl, Nat.le_of_ble_eq_true rfl⟩) hK P_nil rfl hl.1 rfl (Nat.le_of_ble_eq_true rfl) dL_acts_48 ⟨Nat.le_of_ble_eq_true rfl, Nat.le_of_ble_eq_true rfl⟩ (fun r_sa hr_sa => ?_)
      obtain ⟨sa, hsa, e_sa⟩ := hr_sa
      subst e_sa
      refine lv_iadd hx hb dL_acts_51 ?_
      refine lv_goto (tgt := 65) hx hb dL_acts_52 (by decide) ?_
      refine lv_cvt (y := (nI (1 + sa))) (nI_add 1 sa) ?_
      exact K65 (1 + sa) (by omega) (by omega) ls hl
  · skip
    refine lv_iload hx hb dL_acts_28 (lv_at hl 1 rfl) ?_
    refine lv_if_ne (tgt := 171) hx hb dL_acts_30 (by decide) (fun c30 => ?_) (fun c30 => ?_)
    · skip
      have hj0 : 0 < knj (eC o) := Nat.pos_of_ne_zero (fun q => c30 (by rw [q]; rfl))
      refine lv_iload_n hx hb dL_acts_171 rfl (lv_at hl 5 rfl) ?_
      refine lv_iload hx hb dL_acts_172 (lv_at hl 1 rfl) ?_
      refine xpS (rest := []) ⟨hx, hb, hml, hown, hts⟩ (c_L_low l G cI cQ d v0 (knj (eC o)) hj0 (by omega)) (cwS 2 hts gL_acts_L_low rfl rfl rfl cd_L_low ⟨Nat.le_of_ble_eq_true rfl, Nat.le_of_ble_eq_true rfl⟩) hK P_nil rfl hl.1 rfl (Nat.le_of_ble_eq_true rfl) dL_acts_174 ⟨Nat.le_of_ble_eq_true rfl, Nat.le_of_ble_eq_true rfl⟩ (fun r_ja hr_ja => ?_)
      obtain ⟨ja, hja, e_ja⟩ := hr_ja
      subst e_ja
      refine lv_istore (lv' := [(7, .int (nI ja)), (6, .int (nI k)), (5, .int (nI (knj (eC o)))), (4, .int (nI (knv (eC o)))), (0, .ref (adE d)), (1, .int (nI kd)), (2, .int v0), (3, .int w0)]) hx hb dL_acts_177 hl (by decide) rfl (fun ls hl => ?_)
      refine lv_iload_n hx hb dL_acts_179 rfl (lv_at hl 6 rfl) ?_
      refine lv_iconst (v := 5) hx hb dL_acts_180 (by decide) ?_
      refine lv_ishr hx hb dL_acts_181 ?_
      refine lv_iload hx hb dL_acts_182 (lv_at hl 2 rfl) ?_
      refine xpS (rest := []) ⟨hx, hb, hml, hown, hts⟩ (c_L_low l G cI cQ d (v0 >>> (5 &&& 31)) (knj (eC o)) hj0 (by omega)) (cwS 2 hts gL_acts_L_low rfl rfl rfl cd_L_low ⟨Nat.le_of_ble_eq_true rfl, Nat.le_of_ble_eq_true rfl⟩) hK P_nil rfl hl.1 rfl (Nat.le_of_ble_eq_true rfl) dL_acts_184 ⟨Nat.le_of_ble_eq_true rfl, Nat.le_of_ble_eq_true rfl⟩ (fun r_jb hr_jb => ?_)
      obtain ⟨jb, hjb, e_jb⟩ := hr_jb
      subst e_jb
      refine lv_istore (lv' := [(8, .int (nI jb)), (7, .int (nI ja)), (6, .int (nI k)), (5, .int (nI (knj (eC o)))), (4, .int (nI (knv (eC o)))), (0, .ref (adE d)), (1, .int (nI kd)), (2, .int v0), (3, .int w0)]) hx hb dL_acts_187 hl (by decide) rfl (fun ls hl => ?_)
      refine lv_iload_n hx hb dL_acts_189 rfl (lv_at hl 7 rfl) ?_
      refine lv_bipush (v := 10) hx hb dL_acts_190 (by decide) ?_
      refine lv_ishr hx hb dL_acts_192 ?_
      refine lv_iload hx hb dL_acts_193 (lv_at hl 3 rfl) ?_
      refine xpS (rest := []) ⟨hx, hb, hml, hown, hts⟩ (c_L_low l G cI cQ d (v0 >>> (10 &&& 31)) (knj (eC o)) hj0 (by omega)) (cwS 2 hts gL_acts_L_low rfl rfl rfl cd_L_low ⟨Nat.le_of_ble_eq_true rfl, Nat.le_of_ble_eq_true rfl⟩) hK P_nil rfl hl.1 rfl (Nat.le_of_ble_eq_true rfl) dL_acts_195 ⟨Nat.le_of_ble_eq_true rfl, Nat.le_of_ble_eq_true rfl⟩ (fun r_jc hr_jc => ?_)
      obtain ⟨jc, hjc, e_jc⟩ := hr_jc
      subst e_jc
      refine lv_istore (lv' := [(9, .int (nI jc)), (8, .int (nI jb)), (7, .int (nI ja)), (6, .int (nI k)), (5, .int (nI (knj (eC o)))), (4, .int (nI (knv (eC o)))), (0, .ref (adE d)), (1, .int (nI kd)), (2, .int v0), (3, .int w0)]) hx hb dL_acts_198 hl (by decide) rfl (fun ls hl => ?_)
      refine lv_aload_n hx hb dL_acts_200 rfl (lv_at hl 6 rfl) ?_
      refine lv_bipush (v := 10) hx hb dL_acts_201 (by decide) ?_
      refine xpV (rest := []) ⟨hx, hb, hml, hown, hts⟩ (x_count l G cI cQ d o hE 10) (cwV 1 hts gL_acts_X4_count rfl rfl rfl cd_X4_count ⟨Nat.le_of_ble_eq_true rfl, Nat.le_of_ble_eq_true rfl⟩) hK hP rfl hl.1 rfl (Nat.le_of_ble_eq_true rfl) dL_acts_203 ⟨Nat.le_of_ble_eq_true rfl, Nat.le_of_ble_eq_true rfl⟩ ?_
      refine lv_cvt (y := (kbu (eC o))) (rfl) ?_
      refine lv_istore (lv' := [(10, .int (kbu (eC o))), (9, .int (nI jc)), (8, .int (nI jb)), (7, .int (nI ja)), (6, .int (nI k)), (5, .int (nI (knj (eC o)))), (4, .int (nI (knv (eC o)))), (0, .ref (adE d)), (1, .int (nI kd)), (2, .int v0), (3, .int w0)]) hx hb dL_acts_206 hl (by decide) rfl (fun ls hl => ?_)
      refine lv_aload_n hx hb dL_acts_208 rfl (lv_at hl 7 rfl) ?_
      refine lv_bipush (v := 12) hx hb dL_acts_209 (by decide) ?_
      refine xpV (rest := []) ⟨hx, hb, hml, hown, hts⟩ (x_count l G cI cQ d o hE 12) (cwV 1 hts gL_acts_X4_count rfl rfl rfl cd_X4_count ⟨Nat.le_of_ble_eq_true rfl, Nat.le_of_ble_eq_true rfl⟩) hK hP rfl hl.1 rfl (Nat.le_of_ble_eq_true rfl) dL_acts_211 ⟨Nat.le_of_ble_eq_true rfl, Nat.le_of_ble_eq_true rfl⟩ ?_
      refine lv_cvt (y := (kmo (eC o))) (rfl) ?_
      refine lv_istore (lv' := [(11, .int (kmo (eC o))), (10, .int (kbu (eC o))), (9, .int (nI jc)), (8, .int (nI jb)), (7, .int (nI ja)), (6, .int (nI k)), (5, .int (nI (knj (eC o)))), (4, .int (nI (knv (eC o)))), (0, .ref (adE d)), (1, .int (nI kd)), (2, .int v0), (3, .int w0)]) hx hb dL_acts_214 hl (by decide) rfl (fun ls hl => ?_)
      refine lv_aload_n hx hb dL_acts_216 rfl (lv_at hl 8 rfl) ?_
      refine lv_iload hx hb dL_acts_217 (lv_at hl 4 rfl) ?_
      refine lv_iconst (v := 2) hx hb dL_acts_219 (by decide) ?_
      refine xpV (rest := []) ⟨hx, hb, hml, hown, hts⟩ (x_job l G cI cQ d o hE (nI ja) 2) (cwV 2 hts gL_acts_X4_job rfl rfl rfl cd_X4_job ⟨Nat.le_of_ble_eq_true rfl, Nat.le_of_ble_eq_true rfl⟩) hK hP rfl hl.1 rfl (Nat.le_of_ble_eq_true rfl) dL_acts_220 ⟨Nat.le_of_ble_eq_true rfl, Nat.le_of_ble_eq_true rfl⟩ ?_
      refine lv_cvt (y := (aT 24 (kpl (eC o)) (nI ja))) (vj2 w.1 hja) ?_
      refine lv_istore (lv' := [(12, .int (aT 24 (kpl (eC o)) (nI ja))), (11, .int (kmo (eC o))), (10, .int (kbu (eC o))), (9, .int (nI jc)), (8, .int (nI jb)), (7, .int (nI ja)), (6, .int (nI k)), (5, .int (nI (knj (eC o)))), (4, .int (nI (knv (eC o)))), (0, .ref (adE d)), (1, .int (nI kd)), (2, .int v0), (3, .int w0)]) hx hb dL_acts_223 hl (by decide) rfl (fun ls hl => ?_)
      have K368 : ∀ (ls : Array Slot), lv_has ls 16 [(12, .int (aT 24 (kpl (eC o)) (nI ja))), (11, .int (kmo (eC o))), (10, .int (kbu (eC o))), (9, .int (nI jc)), (8, .int (nI jb)), (7, .int (nI ja)), (6, .int (nI k)), (5, .int (nI (knj (eC o)))), (4, .int (nI (knv (eC o)))), (0, .ref (adE d)), (1, .int (nI kd)), (2, .int v0), (3, .int w0)] → W p l e ({ frames := 7, cells := 0, slots := 0, locals := 188 } : Room) s m ([.ref (adE d), .int (nI kd), .int v0, .int w0] : List Value).toArray below meth cd H locs 0 0 (MQ below (va_Qi (fun (r : Int32) (u : ES) => r = 1 ∧ (EI u ∧ 0 < knv (eC u))) (mB G (A) (XW cI cQ d)) (A)) ([.ref (adE d), .int (nI kd), .int v0, .int w0] : List Value).toArray s 0 0 A) (F0 m 368 ls []) := by
        intro ls hl
        refine lv_aload_n hx hb dL_acts_368 rfl (lv_at hl 9 rfl) ?_
        refine lv_iload hx hb dL_acts_369 (lv_at hl 5 rfl) ?_
        refine lv_iload hx hb dL_acts_371 (lv_at hl 6 rfl) ?_
        refine xmV (rest := []) ⟨hx, hb, hml, hown, hts⟩ (x_move l G cI cQ d o hE (nI ja) (nI k) _) (cwV 2 hts gL_acts_X4_move rfl rfl rfl cd_X4_move ⟨Nat.le_of_ble_eq_true rfl, Nat.le_of_ble_eq_true rfl⟩) hK hP hD hS hA rfl hl.1 rfl (Nat.le_of_ble_eq_true rfl) dL_acts_373 ⟨Nat.le_of_ble_eq_true rfl, Nat.le_of_ble_eq_true rfl⟩ (fun o3 H locs ho3 hP hD hS => ?_)
        rcases mv_sp w hja hk with ⟨m1, m2, m3, m4, em, wm⟩ | ⟨mb, em⟩
        · skip
          have hr_o3 : (fMove (eC o) (nI ja) (nI k)) = (nI (gtN (sTake (eC o) (nI ja) (nI k))), (sTake (eC o) (nI ja) (nI k))) := by rw [hc_o]; exact em
          have hE_o3 : EI o3 := ei_act hE (by rw [hr_o3]; exact wm) ho3
          have hc_o3 : eC o3 = (sTake (eC o) (nI ja) (nI k)) := by rw [ho3]; exact congrArg Prod.snd hr_o3
          have hh_o3 := hh_act (o := o) (by rw [hr_o3]; exact nI_pos (by have := gt_le wm.1; omega)) ho3
          refine lv_cvt (y := nI (gtN (sTake (eC o) (nI ja) (nI k)))) (congrArg Prod.fst hr_o3) ?_
          refine lv_istore (lv' := [(13, .int (nI (gtN (sTake (eC o) (nI ja) (nI k))))), (12, .int (aT 24 (kpl (eC o)) (nI ja))), (11, .int (kmo (eC o))), (10, .int (kbu (eC o))), (9, .int (nI jc)), (8, .int (nI jb)), (7, .int (nI ja)), (6, .int (nI k)), (5, .int (nI (knj (eC o)))), (4, .int (nI (knv (eC o)))), (0, .ref (adE d)), (1, .int (nI kd)), (2, .int v0), (3, .int w0)]) hx hb dL_acts_376 hl (by decide) rfl (fun ls hl => ?_)
          refine lv_iload hx hb dL_acts_378 (lv_at hl 1 rfl) ?_
          refine lv_bipush (v := (-9)) hx hb dL_acts_380 (by decide) ?_
          refine lv_icmp_eq (tgt := 419) hx hb dL_acts_382 (by decide) (fun c => False.elim (m1 ((cp9 w.1 hja).mp c))) (fun _ => ?_)
          refine lv_iload hx hb dL_acts_385 (lv_at hl 1 rfl) ?_
          refine lv_iload hx hb dL_acts_387 (lv_at hl 7 rfl) ?_
          refine lv_icmp_eq (tgt := 419) hx hb dL_acts_389 (by decide) (fun c => False.elim (m2 ((cpk w.1 hja k6).mp c))) (fun _ => ?_)
          refine lv_aload_n hx hb dL_acts_392 rfl (lv_at hl 10 rfl) ?_
          refine lv_iload hx hb dL_acts_393 (lv_at hl 7 rfl) ?_
          refine lv_iconst (v := 0) hx hb dL_acts_395 (by decide) ?_
          refine xpV (rest := []) ⟨hx, hb, hml, hown, hts⟩ (x_server l G cI cQ d o3 hE_o3 (nI k) 0) (cwV 2 hts gL_acts_X4_server rfl rfl rfl cd_X4_server ⟨Nat.le_of_ble_eq_true rfl, Nat.le_of_ble_eq_true rfl⟩) hK hP rfl hl.1 rfl (Nat.le_of_ble_eq_true rfl) dL_acts_396 ⟨Nat.le_of_ble_eq_true rfl, Nat.le_of_ble_eq_true rfl⟩ ?_
          refine lv_cvt (y := 1) (by rw [hc_o3]; exact (vs0 wm.1 hk).trans (congrArg nI (if_pos m3))) ?_
          refine lv_iconst (v := 1) hx hb dL_acts_399 (by decide) ?_
          refine lv_icmp_ne (tgt := 419) hx hb dL_acts_400 (by decide) (fun c => False.elim (c rfl)) (fun _ => ?_)
          refine lv_aload_n hx hb dL_acts_403 rfl (lv_at hl 10 rfl) ?_
          refine lv_iload hx hb dL_acts_404 (lv_at hl 6 rfl) ?_
          refine lv_iconst (v := 1) hx hb dL_acts_406 (by decide) ?_
          refine xpV (rest := []) ⟨hx, hb, hml, hown, hts⟩ (x_job l G cI cQ d o3 hE_o3 (nI ja) 1) (cwV 2 hts gL_acts_X4_job rfl rfl rfl cd_X4_job ⟨Nat.le_of_ble_eq_true rfl, Nat.le_of_ble_eq_true rfl⟩) hK hP rfl hl.1 rfl (Nat.le_of_ble_eq_true rfl) dL_acts_407 ⟨Nat.le_of_ble_eq_true rfl, Nat.le_of_ble_eq_true rfl⟩ ?_
          refine lv_cvt (y := (nI (qN (eC o) ja))) (by rw [hc_o3]; exact vj1 wm.1 hja) ?_
          refine lv_iload hx hb dL_acts_410 (lv_at hl 3 rfl) ?_
          refine lv_icmp_gt (tgt := 419) hx hb dL_acts_412 (by decide) (fun c => False.elim (Int32.not_lt.mpr ((bu_le w (by have := ci_q w.1 hja; omega)).mpr m4) c)) (fun _ => ?_)
          refine lv_iconst (v := 1) hx hb dL_acts_415 (by decide) ?_
          refine lv_goto (tgt := 420) hx hb dL_acts_416 (by decide) ?_
          refine lv_istore (lv' := [(14, .int 1), (13, .int (nI (gtN (sTake (eC o) (nI ja) (nI k))))), (12, .int (aT 24 (kpl (eC o)) (nI ja))), (11, .int (kmo (eC o))), (10, .int (kbu (eC o))), (9, .int (nI jc)), (8, .int (nI jb)), (7, .int (nI ja)), (6, .int (nI k)), (5, .int (nI (knj (eC o)))), (4, .int (nI (knv (eC o)))), (0, .ref (adE d)), (1, .int (nI kd)), (2, .int v0), (3, .int w0)]) hx hb dL_acts_420 hl (by decide) rfl (fun ls hl => ?_)
          refine lv_iload hx hb dL_acts_422 (lv_at hl 0 rfl) ?_
          refine lv_if_eq (tgt := 489) hx hb dL_acts_424 (by decide) (fun c => absurd c (by decide)) (fun _ => ?_)
          refine lv_iload hx hb dL_acts_427 (lv_at hl 1 rfl) ?_
          refine lv_aload_n hx hb dL_acts_429 rfl (lv_at hl 11 rfl) ?_
          refine lv_iconst (v := 5) hx hb dL_acts_430 (by decide) ?_
          refine xpV (rest := [.int (nI (gtN (sTake (eC o) (nI ja) (nI k))))]) ⟨hx, hb, hml, hown, hts⟩ (x_count l G cI cQ d o3 hE_o3 5) (cwV 1 hts gL_acts_X4_count rfl rfl rfl cd_X4_count ⟨Nat.le_of_ble_eq_true rfl, Nat.le_of_ble_eq_true rfl⟩) hK hP rfl hl.1 rfl (Nat.le_of_ble_eq_true rfl) dL_acts_431 ⟨Nat.le_of_ble_eq_true rfl, Nat.le_of_ble_eq_true rfl⟩ ?_
          refine lv_cvt (y := (nI (gtN (sTake (eC o) (nI ja) (nI k))))) (by rw [hc_o3]; exact vc5 wm.1) ?_
          refine lv_icmp_ne (tgt := 485) hx hb dL_acts_434 (by decide) (fun c => False.elim (c rfl)) (fun _ => ?_)
          refine lv_aload_n hx hb dL_acts_437 rfl (lv_at hl 11 rfl) ?_
          refine lv_iload hx hb dL_acts_438 (lv_at hl 7 rfl) ?_
          refine lv_iconst (v := 2) hx hb dL_acts_440 (by decide) ?_
          refine xpV (rest := []) ⟨hx, hb, hml, hown, hts⟩ (x_job l G cI cQ d o3 hE_o3 (nI ja) 2) (cwV 2 hts gL_acts_X4_job rfl rfl rfl cd_X4_job ⟨Nat.le_of_ble_eq_true rfl, Nat.le_of_ble_eq_true rfl⟩) hK hP rfl hl.1 rfl (Nat.le_of_ble_eq_true rfl) dL_acts_441 ⟨Nat.le_of_ble_eq_true rfl, Nat.le_of_ble_eq_true rfl⟩ ?_
          refine lv_cvt (y := (nI k)) (by rw [hc_o3]; exact (vj2 wm.1 hja).trans ((cpk wm.1 hja k6).mpr (by rw [tk_p (ci_j w.1 hja) (by omega), if_pos rfl]))) ?_
          refine lv_iload hx hb dL_acts_444 (lv_at hl 8 rfl) ?_
          refine lv_icmp_ne (tgt := 485) hx hb dL_acts_446 (by decide) (fun c => False.elim (c rfl)) (fun _ => ?_)
          refine lv_aload_n hx hb dL_acts_449 rfl (lv_at hl 11 rfl) ?_
          refine lv_bipush (v := 10) hx hb dL_acts_450 (by decide) ?_
          refine xpV (rest := []) ⟨hx, hb, hml, hown, hts⟩ (x_count l G cI cQ d o3 hE_o3 10) (cwV 1 hts gL_acts_X4_count rfl rfl rfl cd_X4_count ⟨Nat.le_of_ble_eq_true rfl, Nat.le_of_ble_eq_true rfl⟩) hK hP rfl hl.1 rfl (Nat.le_of_ble_eq_true rfl) dL_acts_452 ⟨Nat.le_of_ble_eq_true rfl, Nat.le_of_ble_eq_true rfl⟩ ?_
          refine lv_cvt (y := (kbu (eC o) - (nI (qN (eC o) ja)))) (by rw [hc_o3]; exact tk_bu w.1 hja _) ?_
          refine lv_iload hx hb dL_acts_455 (lv_at hl 4 rfl) ?_
          refine lv_aload_n hx hb dL_acts_457 rfl (lv_at hl 11 rfl) ?_
          refine lv_iload hx hb dL_acts_458 (lv_at hl 7 rfl) ?_
          refine lv_iconst (v := 1) hx hb dL_acts_460 (by decide) ?_
          refine xpV (rest := [.int (kbu (eC o)), .int (kbu (eC o) - (nI (qN (eC o) ja)))]) ⟨hx, hb, hml, hown, hts⟩ (x_job l G cI cQ d o3 hE_o3 (nI ja) 1) (cwV 2 hts gL_acts_X4_job rfl rfl rfl cd_X4_job ⟨Nat.le_of_ble_eq_true rfl, Nat.le_of_ble_eq_true rfl⟩) hK hP rfl hl.1 rfl (Nat.le_of_ble_eq_true rfl) dL_acts_461 ⟨Nat.le_of_ble_eq_true rfl, Nat.le_of_ble_eq_true rfl⟩ ?_
          refine lv_cvt (y := (nI (qN (eC o) ja))) (by rw [hc_o3]; exact vj1 wm.1 hja) ?_
          refine lv_isub hx hb dL_acts_464 ?_
          refine lv_icmp_ne (tgt := 485) hx hb dL_acts_465 (by decide) (fun c => False.elim (c rfl)) (fun _ => ?_)
          refine lv_aload_n hx hb dL_acts_468 rfl (lv_at hl 11 rfl) ?_
          refine lv_bipush (v := 12) hx hb dL_acts_469 (by decide) ?_
          refine xpV (rest := []) ⟨hx, hb, hml, hown, hts⟩ (x_count l G cI cQ d o3 hE_o3 12) (cwV 1 hts gL_acts_X4_count rfl rfl rfl cd_X4_count ⟨Nat.le_of_ble_eq_true rfl, Nat.le_of_ble_eq_true rfl⟩) hK hP rfl hl.1 rfl (Nat.le_of_ble_eq_true rfl) dL_acts_471 ⟨Nat.le_of_ble_eq_true rfl, Nat.le_of_ble_eq_true rfl⟩ ?_
          refine lv_cvt (y := (kmo (eC o) + 1)) (by rw [hc_o3]; rfl) ?_
          refine lv_iload hx hb dL_acts_474 (lv_at hl 3 rfl) ?_
          refine lv_iconst (v := 1) hx hb dL_acts_476 (by decide) ?_
          refine lv_iadd hx hb dL_acts_477 ?_
          refine lv_icmp_ne (tgt := 485) hx hb dL_acts_478 (by decide) (fun c => False.elim (c rfl)) (fun _ => ?_)
          refine lv_iconst (v := 1) hx hb dL_acts_481 (by decide) ?_
          refine lv_goto (tgt := 501) hx hb dL_acts_482 (by decide) ?_
          exact m_ret (ty := .boolean) o3 hx hb hr hlocks rfl ⟨rfl, ⟨hE_o3, (by rw [hc_o3]; exact hv0)⟩⟩ hP hD hS dL_acts_501
        · skip
          have hr_o3 : (fMove (eC o) (nI ja) (nI k)) = (-2, eC o) := by rw [hc_o]; exact em
          have hq_o3 : qE o o3 := q_act hE hr_o3 (by decide) ho3
          have hE_o3 := hq_o3.1
          have hc_o3 : eC o3 = eC o := hq_o3.2.1.trans hc_o
          refine lv_cvt (y := -2) (congrArg Prod.fst hr_o3) ?_
          refine lv_istore (lv' := [(13, .int (-2)), (12, .int (aT 24 (kpl (eC o)) (nI ja))), (11, .int (kmo (eC o))), (10, .int (kbu (eC o))), (9, .int (nI jc)), (8, .int (nI jb)), (7, .int (nI ja)), (6, .int (nI k)), (5, .int (nI (knj (eC o)))), (4, .int (nI (knv (eC o)))), (0, .ref (adE d)), (1, .int (nI kd)), (2, .int v0), (3, .int w0)]) hx hb dL_acts_376 hl (by decide) rfl (fun ls hl => ?_)
          refine lv_iload hx hb dL_acts_378 (lv_at hl 1 rfl) ?_
          refine lv_bipush (v := (-9)) hx hb dL_acts_380 (by decide) ?_
          refine lv_icmp_eq (tgt := 419) hx hb dL_acts_382 (by decide) (fun c382 => ?_) (fun c382 => ?_)
          · skip
            refine lv_iconst (v := 0) hx hb dL_acts_419 (by decide) ?_
            refine lv_istore (lv' := [(14, .int 0), (13, .int (-2)), (12, .int (aT 24 (kpl (eC o)) (nI ja))), (11, .int (kmo (eC o))), (10, .int (kbu (eC o))), (9, .int (nI jc)), (8, .int (nI jb)), (7, .int (nI ja)), (6, .int (nI k)), (5, .int (nI (knj (eC o)))), (4, .int (nI (knv (eC o)))), (0, .ref (adE d)), (1, .int (nI kd)), (2, .int v0), (3, .int w0)]) hx hb dL_acts_420 hl (by decide) rfl (fun ls hl => ?_)
            refine lv_iload hx hb dL_acts_422 (lv_at hl 0 rfl) ?_
            refine lv_if_eq (tgt := 489) hx hb dL_acts_424 (by decide) (fun _ => ?_) (fun c => absurd c (by decide))
            refine lv_iload hx hb dL_acts_489 (lv_at hl 1 rfl) ?_
            refine lv_bipush (v := (-2)) hx hb dL_acts_491 (by decide) ?_
            refine lv_icmp_ne (tgt := 500) hx hb dL_acts_493 (by decide) (fun c => absurd c (by decide)) (fun _ => ?_)
            refine lv_iconst (v := 1) hx hb dL_acts_496 (by decide) ?_
            refine lv_goto (tgt := 501) hx hb dL_acts_497 (by decide) ?_
            exact m_ret (ty := .boolean) o3 hx hb hr hlocks rfl ⟨rfl, ⟨hE_o3, (by rw [hc_o3]; exact hv0)⟩⟩ hP hD hS dL_acts_501
          · skip
            refine lv_iload hx hb dL_acts_385 (lv_at hl 1 rfl) ?_
            refine lv_iload hx hb dL_acts_387 (lv_at hl 7 rfl) ?_
            refine lv_icmp_eq (tgt := 419) hx hb dL_acts_389 (by decide) (fun c389 => ?_) (fun c389 => ?_)
            · skip
              refine lv_iconst (v := 0) hx hb dL_acts_419 (by decide) ?_
              refine lv_istore (lv' := [(14, .int 0), (13, .int (-2)), (12, .int (aT 24 (kpl (eC o)) (nI ja))), (11, .int (kmo (eC o))), (10, .int (kbu (eC o))), (9, .int (nI jc)), (8, .int (nI jb)), (7, .int (nI ja)), (6, .int (nI k)), (5, .int (nI (knj (eC o)))), (4, .int (nI (knv (eC o)))), (0, .ref (adE d)), (1, .int (nI kd)), (2, .int v0), (3, .int w0)]) hx hb dL_acts_420 hl (by decide) rfl (fun ls hl => ?_)
              refine lv_iload hx hb dL_acts_422 (lv_at hl 0 rfl) ?_
              refine lv_if_eq (tgt := 489) hx hb dL_acts_424 (by decide) (fun _ => ?_) (fun c => absurd c (by decide))
              refine lv_iload hx hb dL_acts_489 (lv_at hl 1 rfl) ?_
              refine lv_bipush (v := (-2)) hx hb dL_acts_491 (by decide) ?_
              refine lv_icmp_ne (tgt := 500) hx hb dL_acts_493 (by decide) (fun c => absurd c (by decide)) (fun _ => ?_)
              refine lv_iconst (v := 1) hx hb dL_acts_496 (by decide) ?_
              refine lv_goto (tgt := 501) hx hb dL_acts_497 (by decide) ?_
              exact m_ret (ty := .boolean) o3 hx hb hr hlocks rfl ⟨rfl, ⟨hE_o3, (by rw [hc_o3]; exact hv0)⟩⟩ hP hD hS dL_acts_501
            · skip
              refine lv_aload_n hx hb dL_acts_392 rfl (lv_at hl 10 rfl) ?_
              refine lv_iload hx hb dL_acts_393 (lv_at hl 7 rfl) ?_
              refine lv_iconst (v := 0) hx hb dL_acts_395 (by decide) ?_
              refine xpV (rest := []) ⟨hx, hb, hml, hown, hts⟩ (x_server l G cI cQ d o3 hE_o3 (nI k) 0) (cwV 2 hts gL_acts_X4_server rfl rfl rfl cd_X4_server ⟨Nat.le_of_ble_eq_true rfl, Nat.le_of_ble_eq_true rfl⟩) hK hP rfl hl.1 rfl (Nat.le_of_ble_eq_true rfl) dL_acts_396 ⟨Nat.le_of_ble_eq_true rfl, Nat.le_of_ble_eq_true rfl⟩ ?_
              refine lv_cvt (y := (nI (oN (eC o) k))) (by rw [hc_o3]; exact vs0 w.1 hk) ?_
              refine lv_iconst (v := 1) hx hb dL_acts_399 (by decide) ?_
              refine lv_icmp_ne (tgt := 419) hx hb dL_acts_400 (by decide) (fun c400 => ?_) (fun c400 => ?_)
              · skip
                refine lv_iconst (v := 0) hx hb dL_acts_419 (by decide) ?_
                refine lv_istore (lv' := [(14, .int 0), (13, .int (-2)), (12, .int (aT 24 (kpl (eC o)) (nI ja))), (11, .int (kmo (eC o))), (10, .int (kbu (eC o))), (9, .int (nI jc)), (8, .int (nI jb)), (7, .int (nI ja)), (6, .int (nI k)), (5, .int (nI (knj (eC o)))), (4, .int (nI (knv (eC o)))), (0, .ref (adE d)), (1, .int (nI kd)), (2, .int v0), (3, .int w0)]) hx hb dL_acts_420 hl (by decide) rfl (fun ls hl => ?_)
                refine lv_iload hx hb dL_acts_422 (lv_at hl 0 rfl) ?_
                refine lv_if_eq (tgt := 489) hx hb dL_acts_424 (by decide) (fun _ => ?_) (fun c => absurd c (by decide))
                refine lv_iload hx hb dL_acts_489 (lv_at hl 1 rfl) ?_
                refine lv_bipush (v := (-2)) hx hb dL_acts_491 (by decide) ?_
                refine lv_icmp_ne (tgt := 500) hx hb dL_acts_493 (by decide) (fun c => absurd c (by decide)) (fun _ => ?_)
                refine lv_iconst (v := 1) hx hb dL_acts_496 (by decide) ?_
                refine lv_goto (tgt := 501) hx hb dL_acts_497 (by decide) ?_
                exact m_ret (ty := .boolean) o3 hx hb hr hlocks rfl ⟨rfl, ⟨hE_o3, (by rw [hc_o3]; exact hv0)⟩⟩ hP hD hS dL_acts_501
              · skip
                refine lv_aload_n hx hb dL_acts_403 rfl (lv_at hl 10 rfl) ?_
                refine lv_iload hx hb dL_acts_404 (lv_at hl 6 rfl) ?_
                refine lv_iconst (v := 1) hx hb dL_acts_406 (by decide) ?_
                refine xpV (rest := []) ⟨hx, hb, hml, hown, hts⟩ (x_job l G cI cQ d o3 hE_o3 (nI ja) 1) (cwV 2 hts gL_acts_X4_job rfl rfl rfl cd_X4_job ⟨Nat.le_of_ble_eq_true rfl, Nat.le_of_ble_eq_true rfl⟩) hK hP rfl hl.1 rfl (Nat.le_of_ble_eq_true rfl) dL_acts_407 ⟨Nat.le_of_ble_eq_true rfl, Nat.le_of_ble_eq_true rfl⟩ ?_
                refine lv_cvt (y := (nI (qN (eC o) ja))) (by rw [hc_o3]; exact vj1 w.1 hja) ?_
                refine lv_iload hx hb dL_acts_410 (lv_at hl 3 rfl) ?_
                refine lv_icmp_gt (tgt := 419) hx hb dL_acts_412 (by decide) (fun c412 => ?_) (fun c412 => ?_)
                · skip
                  refine lv_iconst (v := 0) hx hb dL_acts_419 (by decide) ?_
                  refine lv_istore (lv' := [(14, .int 0), (13, .int (-2)), (12, .int (aT 24 (kpl (eC o)) (nI ja))), (11, .int (kmo (eC o))), (10, .int (kbu (eC o))), (9, .int (nI jc)), (8, .int (nI jb)), (7, .int (nI ja)), (6, .int (nI k)), (5, .int (nI (knj (eC o)))), (4, .int (nI (knv (eC o)))), (0, .ref (adE d)), (1, .int (nI kd)), (2, .int v0), (3, .int w0)]) hx hb dL_acts_420 hl (by decide) rfl (fun ls hl => ?_)
                  refine lv_iload hx hb dL_acts_422 (lv_at hl 0 rfl) ?_
                  refine lv_if_eq (tgt := 489) hx hb dL_acts_424 (by decide) (fun _ => ?_) (fun c => absurd c (by decide))
                  refine lv_iload hx hb dL_acts_489 (lv_at hl 1 rfl) ?_
                  refine lv_bipush (v := (-2)) hx hb dL_acts_491 (by decide) ?_
                  refine lv_icmp_ne (tgt := 500) hx hb dL_acts_493 (by decide) (fun c => absurd c (by decide)) (fun _ => ?_)
                  refine lv_iconst (v := 1) hx hb dL_acts_496 (by decide) ?_
                  refine lv_goto (tgt := 501) hx hb dL_acts_497 (by decide) ?_
                  exact m_ret (ty := .boolean) o3 hx hb hr hlocks rfl ⟨rfl, ⟨hE_o3, (by rw [hc_o3]; exact hv0)⟩⟩ hP hD hS dL_acts_501
                · skip
                  exfalso
                  rcases mb with q | q | q | q
                  · exact c382 ((cp9 w.1 hja).mpr q)
                  · exact c389 ((cpk w.1 hja k6).mpr q)
                  · exact q (on_1.mp c400)
                  · exact absurd ((bu_le w (by have := ci_q w.1 hja; omega)).mp (Int32.not_lt.mp c412)) (by omega)
      have K502 : ∀ (ls : Array Slot), lv_has ls 16 [(12, .int (aT 24 (kpl (eC o)) (nI ja))), (11, .int (kmo (eC o))), (10, .int (kbu (eC o))), (9, .int (nI jc)), (8, .int (nI jb)), (7, .int (nI ja)), (6, .int (nI k)), (5, .int (nI (knj (eC o)))), (4, .int (nI (knv (eC o)))), (0, .ref (adE d)), (1, .int (nI kd)), (2, .int v0), (3, .int w0)] → W p l e ({ frames := 7, cells := 0, slots := 0, locals := 188 } : Room) s m ([.ref (adE d), .int (nI kd), .int v0, .int w0] : List Value).toArray below meth cd H locs 0 0 (MQ below (va_Qi (fun (r : Int32) (u : ES) => r = 1 ∧ (EI u ∧ 0 < knv (eC u))) (mB G (A) (XW cI cQ d)) (A)) ([.ref (adE d), .int (nI kd), .int v0, .int w0] : List Value).toArray s 0 0 A) (F0 m 502 ls []) := by
        intro ls hl
        refine lv_aload_n hx hb dL_acts_502 rfl (lv_at hl 9 rfl) ?_
        refine lv_iload hx hb dL_acts_503 (lv_at hl 4 rfl) ?_
        refine lv_iconst (v := 2) hx hb dL_acts_505 (by decide) ?_
        refine xpV (rest := []) ⟨hx, hb, hml, hown, hts⟩ (x_job l G cI cQ d o hE (nI jb) 2) (cwV 2 hts gL_acts_X4_job rfl rfl rfl cd_X4_job ⟨Nat.le_of_ble_eq_true rfl, Nat.le_of_ble_eq_true rfl⟩) hK hP rfl hl.1 rfl (Nat.le_of_ble_eq_true rfl) dL_acts_506 ⟨Nat.le_of_ble_eq_true rfl, Nat.le_of_ble_eq_true rfl⟩ ?_
        refine lv_cvt (y := (aT 24 (kpl (eC o)) (nI jb))) (vj2 w.1 hjb) ?_
        refine lv_istore (lv' := [(13, .int (aT 24 (kpl (eC o)) (nI jb))), (12, .int (aT 24 (kpl (eC o)) (nI ja))), (11, .int (kmo (eC o))), (10, .int (kbu (eC o))), (9, .int (nI jc)), (8, .int (nI jb)), (7, .int (nI ja)), (6, .int (nI k)), (5, .int (nI (knj (eC o)))), (4, .int (nI (knv (eC o)))), (0, .ref (adE d)), (1, .int (nI kd)), (2, .int v0), (3, .int w0)]) hx hb dL_acts_509 hl (by decide) rfl (fun ls hl => ?_)
        refine lv_aload_n hx hb dL_acts_511 rfl (lv_at hl 10 rfl) ?_
        refine lv_iload hx hb dL_acts_512 (lv_at hl 6 rfl) ?_
        refine lv_iload hx hb dL_acts_514 (lv_at hl 5 rfl) ?_
        refine xmV (rest := []) ⟨hx, hb, hml, hown, hts⟩ (x_exchange l G cI cQ d o hE (nI ja) (nI jb) _) (cwV 2 hts gL_acts_X4_exchange rfl rfl rfl cd_X4_exchange ⟨Nat.le_of_ble_eq_true rfl, Nat.le_of_ble_eq_true rfl⟩) hK hP hD hS hA rfl hl.1 rfl (Nat.le_of_ble_eq_true rfl) dL_acts_516 ⟨Nat.le_of_ble_eq_true rfl, Nat.le_of_ble_eq_true rfl⟩ (fun o4 H locs ho4 hP hD hS => ?_)
        rcases ex_sp w hja hjb with ⟨x0, x1, x2, x3, x4, em⟩ | ⟨x0, em⟩ | ⟨x0, mb, em⟩
        · skip
          obtain ⟨wd, d1, d2, d3, d4, d5⟩ := ex_do w hja hjb x1 x2 x3 x4
          have hr_o4 : (fExch (eC o) (nI ja) (nI jb)) = (nI (gtN (sExch (eC o) (nI ja) (nI jb))), (sExch (eC o) (nI ja) (nI jb))) := by rw [hc_o]; exact em
          have hE_o4 : EI o4 := ei_act hE (by rw [hr_o4]; exact wd) ho4
          have hc_o4 : eC o4 = (sExch (eC o) (nI ja) (nI jb)) := by rw [ho4]; exact congrArg Prod.snd hr_o4
          have hh_o4 := hh_act (o := o) (by rw [hr_o4]; exact nI_pos (by have := gt_le wd.1; omega)) ho4
          refine lv_cvt (y := nI (gtN (sExch (eC o) (nI ja) (nI jb)))) (congrArg Prod.fst hr_o4) ?_
          refine lv_istore (lv' := [(14, .int (nI (gtN (sExch (eC o) (nI ja) (nI jb))))), (13, .int (aT 24 (kpl (eC o)) (nI jb))), (12, .int (aT 24 (kpl (eC o)) (nI ja))), (11, .int (kmo (eC o))), (10, .int (kbu (eC o))), (9, .int (nI jc)), (8, .int (nI jb)), (7, .int (nI ja)), (6, .int (nI k)), (5, .int (nI (knj (eC o)))), (4, .int (nI (knv (eC o)))), (0, .ref (adE d)), (1, .int (nI kd)), (2, .int v0), (3, .int w0)]) hx hb dL_acts_519 hl (by decide) rfl (fun ls hl => ?_)
          refine lv_iload hx hb dL_acts_521 (lv_at hl 7 rfl) ?_
          refine lv_iload hx hb dL_acts_523 (lv_at hl 6 rfl) ?_
          refine lv_icmp_eq (tgt := 573) hx hb dL_acts_525 (by decide) (fun c => False.elim (x0 ((nI_eq (by omega) (by omega)).mp c))) (fun _ => ?_)
          refine lv_iload hx hb dL_acts_528 (lv_at hl 2 rfl) ?_
          refine lv_bipush (v := (-9)) hx hb dL_acts_530 (by decide) ?_
          refine lv_icmp_eq (tgt := 573) hx hb dL_acts_532 (by decide) (fun c => False.elim (x1 ((cp9 w.1 hja).mp c))) (fun _ => ?_)
          refine lv_iload hx hb dL_acts_535 (lv_at hl 1 rfl) ?_
          refine lv_bipush (v := (-9)) hx hb dL_acts_537 (by decide) ?_
          refine lv_icmp_eq (tgt := 573) hx hb dL_acts_539 (by decide) (fun c => False.elim (x2 ((cp9 w.1 hjb).mp c))) (fun _ => ?_)
          refine lv_iload hx hb dL_acts_542 (lv_at hl 2 rfl) ?_
          refine lv_iload hx hb dL_acts_544 (lv_at hl 1 rfl) ?_
          refine lv_icmp_eq (tgt := 573) hx hb dL_acts_546 (by decide) (fun c => False.elim (x3 ((cpp w.1 hja hjb).mp c))) (fun _ => ?_)
          refine lv_aload_n hx hb dL_acts_549 rfl (lv_at hl 11 rfl) ?_
          refine lv_iload hx hb dL_acts_550 (lv_at hl 7 rfl) ?_
          refine lv_iconst (v := 1) hx hb dL_acts_552 (by decide) ?_
          refine xpV (rest := []) ⟨hx, hb, hml, hown, hts⟩ (x_job l G cI cQ d o4 hE_o4 (nI ja) 1) (cwV 2 hts gL_acts_X4_job rfl rfl rfl cd_X4_job ⟨Nat.le_of_ble_eq_true rfl, Nat.le_of_ble_eq_true rfl⟩) hK hP rfl hl.1 rfl (Nat.le_of_ble_eq_true rfl) dL_acts_553 ⟨Nat.le_of_ble_eq_true rfl, Nat.le_of_ble_eq_true rfl⟩ ?_
          refine lv_cvt (y := (nI (qN (eC o) ja))) (by rw [hc_o4]; exact vj1 wd.1 (by rw [d5]; exact hja)) ?_
          refine lv_aload_n hx hb dL_acts_556 rfl (lv_at hl 11 rfl) ?_
          refine lv_iload hx hb dL_acts_557 (lv_at hl 6 rfl) ?_
          refine lv_iconst (v := 1) hx hb dL_acts_559 (by decide) ?_
          refine xpV (rest := [.int (nI (qN (eC o) ja))]) ⟨hx, hb, hml, hown, hts⟩ (x_job l G cI cQ d o4 hE_o4 (nI jb) 1) (cwV 2 hts gL_acts_X4_job rfl rfl rfl cd_X4_job ⟨Nat.le_of_ble_eq_true rfl, Nat.le_of_ble_eq_true rfl⟩) hK hP rfl hl.1 rfl (Nat.le_of_ble_eq_true rfl) dL_acts_560 ⟨Nat.le_of_ble_eq_true rfl, Nat.le_of_ble_eq_true rfl⟩ ?_
          refine lv_cvt (y := (nI (qN (eC o) jb))) (by rw [hc_o4]; exact vj1 wd.1 (by rw [d5]; exact hjb)) ?_
          refine lv_iadd hx hb dL_acts_563 ?_
          refine lv_cvt (y := (nI (qN (eC o) ja + qN (eC o) jb))) (nI_add _ _) ?_
          refine lv_iload hx hb dL_acts_564 (lv_at hl 4 rfl) ?_
          refine lv_icmp_gt (tgt := 573) hx hb dL_acts_566 (by decide) (fun c => False.elim (Int32.not_lt.mpr ((bu_le w (by have := ci_q w.1 hja; have := ci_q w.1 hjb; omega)).mpr x4) c)) (fun _ => ?_)
          refine lv_iconst (v := 1) hx hb dL_acts_569 (by decide) ?_
          refine lv_goto (tgt := 574) hx hb dL_acts_570 (by decide) ?_
          refine lv_istore (lv' := [(15, .int 1), (14, .int (nI (gtN (sExch (eC o) (nI ja) (nI jb))))), (13, .int (aT 24 (kpl (eC o)) (nI jb))), (12, .int (aT 24 (kpl (eC o)) (nI ja))), (11, .int (kmo (eC o))), (10, .int (kbu (eC o))), (9, .int (nI jc)), (8, .int (nI jb)), (7, .int (nI ja)), (6, .int (nI k)), (5, .int (nI (knj (eC o)))), (4, .int (nI (knv (eC o)))), (0, .ref (adE d)), (1, .int (nI kd)), (2, .int v0), (3, .int w0)]) hx hb dL_acts_574 hl (by decide) rfl (fun ls hl => ?_)
          refine lv_iload hx hb dL_acts_576 (lv_at hl 0 rfl) ?_
          refine lv_if_eq (tgt := 636) hx hb dL_acts_578 (by decide) (fun c => absurd c (by decide)) (fun _ => ?_)
          refine lv_iload hx hb dL_acts_581 (lv_at hl 1 rfl) ?_
          refine lv_aload_n hx hb dL_acts_583 rfl (lv_at hl 12 rfl) ?_
          refine lv_iconst (v := 5) hx hb dL_acts_584 (by decide) ?_
          refine xpV (rest := [.int (nI (gtN (sExch (eC o) (nI ja) (nI jb))))]) ⟨hx, hb, hml, hown, hts⟩ (x_count l G cI cQ d o4 hE_o4 5) (cwV 1 hts gL_acts_X4_count rfl rfl rfl cd_X4_count ⟨Nat.le_of_ble_eq_true rfl, Nat.le_of_ble_eq_true rfl⟩) hK hP rfl hl.1 rfl (Nat.le_of_ble_eq_true rfl) dL_acts_585 ⟨Nat.le_of_ble_eq_true rfl, Nat.le_of_ble_eq_true rfl⟩ ?_
          refine lv_cvt (y := (nI (gtN (sExch (eC o) (nI ja) (nI jb))))) (by rw [hc_o4]; exact vc5 wd.1) ?_
          refine lv_icmp_ne (tgt := 632) hx hb dL_acts_588 (by decide) (fun c => False.elim (c rfl)) (fun _ => ?_)
          refine lv_aload_n hx hb dL_acts_591 rfl (lv_at hl 12 rfl) ?_
          refine lv_iload hx hb dL_acts_592 (lv_at hl 8 rfl) ?_
          refine lv_iconst (v := 2) hx hb dL_acts_594 (by decide) ?_
          refine xpV (rest := []) ⟨hx, hb, hml, hown, hts⟩ (x_job l G cI cQ d o4 hE_o4 (nI ja) 2) (cwV 2 hts gL_acts_X4_job rfl rfl rfl cd_X4_job ⟨Nat.le_of_ble_eq_true rfl, Nat.le_of_ble_eq_true rfl⟩) hK hP rfl hl.1 rfl (Nat.le_of_ble_eq_true rfl) dL_acts_595 ⟨Nat.le_of_ble_eq_true rfl, Nat.le_of_ble_eq_true rfl⟩ ?_
          refine lv_cvt (y := (aT 24 (kpl (eC o)) (nI jb))) (by rw [hc_o4]; exact (vj2 wd.1 (by rw [d5]; exact hja)).trans (pl_pl w.1 wd.1 (by rw [d5]; exact hja) hjb d1)) ?_
          refine lv_iload hx hb dL_acts_598 (lv_at hl 2 rfl) ?_
          refine lv_icmp_ne (tgt := 632) hx hb dL_acts_600 (by decide) (fun c => False.elim (c rfl)) (fun _ => ?_)
          refine lv_aload_n hx hb dL_acts_603 rfl (lv_at hl 12 rfl) ?_
          refine lv_iload hx hb dL_acts_604 (lv_at hl 7 rfl) ?_
          refine lv_iconst (v := 2) hx hb dL_acts_606 (by decide) ?_
          refine xpV (rest := []) ⟨hx, hb, hml, hown, hts⟩ (x_job l G cI cQ d o4 hE_o4 (nI jb) 2) (cwV 2 hts gL_acts_X4_job rfl rfl rfl cd_X4_job ⟨Nat.le_of_ble_eq_true rfl, Nat.le_of_ble_eq_true rfl⟩) hK hP rfl hl.1 rfl (Nat.le_of_ble_eq_true rfl) dL_acts_607 ⟨Nat.le_of_ble_eq_true rfl, Nat.le_of_ble_eq_true rfl⟩ ?_
          refine lv_cvt (y := (aT 24 (kpl (eC o)) (nI ja))) (by rw [hc_o4]; exact (vj2 wd.1 (by rw [d5]; exact hjb)).trans (pl_pl w.1 wd.1 (by rw [d5]; exact hjb) hja d2)) ?_
          refine lv_iload hx hb dL_acts_610 (lv_at hl 3 rfl) ?_
          refine lv_icmp_ne (tgt := 632) hx hb dL_acts_612 (by decide) (fun c => False.elim (c rfl)) (fun _ => ?_)
          refine lv_aload_n hx hb dL_acts_615 rfl (lv_at hl 12 rfl) ?_
          refine lv_bipush (v := 12) hx hb dL_acts_616 (by decide) ?_
          refine xpV (rest := []) ⟨hx, hb, hml, hown, hts⟩ (x_count l G cI cQ d o4 hE_o4 12) (cwV 1 hts gL_acts_X4_count rfl rfl rfl cd_X4_count ⟨Nat.le_of_ble_eq_true rfl, Nat.le_of_ble_eq_true rfl⟩) hK hP rfl hl.1 rfl (Nat.le_of_ble_eq_true rfl) dL_acts_618 ⟨Nat.le_of_ble_eq_true rfl, Nat.le_of_ble_eq_true rfl⟩ ?_
          refine lv_cvt (y := (kmo (eC o) + 2)) (by rw [hc_o4]; exact d3) ?_
          refine lv_iload hx hb dL_acts_621 (lv_at hl 4 rfl) ?_
          refine lv_iconst (v := 2) hx hb dL_acts_623 (by decide) ?_
          refine lv_iadd hx hb dL_acts_624 ?_
          refine lv_icmp_ne (tgt := 632) hx hb dL_acts_625 (by decide) (fun c => False.elim (c rfl)) (fun _ => ?_)
          refine lv_iconst (v := 1) hx hb dL_acts_628 (by decide) ?_
          refine lv_goto (tgt := 659) hx hb dL_acts_629 (by decide) ?_
          exact m_ret (ty := .boolean) o4 hx hb hr hlocks rfl ⟨rfl, ⟨hE_o4, (by rw [hc_o4]; exact (by rw [d4]; exact hv0))⟩⟩ hP hD hS dL_acts_659
        · skip
          have hr_o4 : (fExch (eC o) (nI ja) (nI jb)) = (-1, eC o) := by rw [hc_o]; exact em
          have hq_o4 : qE o o4 := q_act hE hr_o4 (by decide) ho4
          have hE_o4 := hq_o4.1
          have hc_o4 : eC o4 = eC o := hq_o4.2.1.trans hc_o
          refine lv_cvt (y := -1) (congrArg Prod.fst hr_o4) ?_
          refine lv_istore (lv' := [(14, .int (-1)), (13, .int (aT 24 (kpl (eC o)) (nI jb))), (12, .int (aT 24 (kpl (eC o)) (nI ja))), (11, .int (kmo (eC o))), (10, .int (kbu (eC o))), (9, .int (nI jc)), (8, .int (nI jb)), (7, .int (nI ja)), (6, .int (nI k)), (5, .int (nI (knj (eC o)))), (4, .int (nI (knv (eC o)))), (0, .ref (adE d)), (1, .int (nI kd)), (2, .int v0), (3, .int w0)]) hx hb dL_acts_519 hl (by decide) rfl (fun ls hl => ?_)
          refine lv_iload hx hb dL_acts_521 (lv_at hl 7 rfl) ?_
          refine lv_iload hx hb dL_acts_523 (lv_at hl 6 rfl) ?_
          refine lv_icmp_eq (tgt := 573) hx hb dL_acts_525 (by decide) (fun _ => ?_) (fun c => False.elim (c (by rw [x0])))
          refine lv_iconst (v := 0) hx hb dL_acts_573 (by decide) ?_
          refine lv_istore (lv' := [(15, .int 0), (14, .int (-1)), (13, .int (aT 24 (kpl (eC o)) (nI jb))), (12, .int (aT 24 (kpl (eC o)) (nI ja))), (11, .int (kmo (eC o))), (10, .int (kbu (eC o))), (9, .int (nI jc)), (8, .int (nI jb)), (7, .int (nI ja)), (6, .int (nI k)), (5, .int (nI (knj (eC o)))), (4, .int (nI (knv (eC o)))), (0, .ref (adE d)), (1, .int (nI kd)), (2, .int v0), (3, .int w0)]) hx hb dL_acts_574 hl (by decide) rfl (fun ls hl => ?_)
          refine lv_iload hx hb dL_acts_576 (lv_at hl 0 rfl) ?_
          refine lv_if_eq (tgt := 636) hx hb dL_acts_578 (by decide) (fun _ => ?_) (fun c => absurd c (by decide))
          refine lv_iload hx hb dL_acts_636 (lv_at hl 1 rfl) ?_
          refine lv_iload hx hb dL_acts_638 (lv_at hl 8 rfl) ?_
          refine lv_iload hx hb dL_acts_640 (lv_at hl 7 rfl) ?_
          refine lv_icmp_ne (tgt := 649) hx hb dL_acts_642 (by decide) (fun c => False.elim (c (by rw [x0]))) (fun _ => ?_)
          refine lv_iconst (v := (-1)) hx hb dL_acts_645 (by decide) ?_
          refine lv_goto (tgt := 651) hx hb dL_acts_646 (by decide) ?_
          refine lv_icmp_ne (tgt := 658) hx hb dL_acts_651 (by decide) (fun c => absurd c (by decide)) (fun _ => ?_)
          refine lv_iconst (v := 1) hx hb dL_acts_654 (by decide) ?_
          refine lv_goto (tgt := 659) hx hb dL_acts_655 (by decide) ?_
          exact m_ret (ty := .boolean) o4 hx hb hr hlocks rfl ⟨rfl, ⟨hE_o4, (by rw [hc_o4]; exact hv0)⟩⟩ hP hD hS dL_acts_659
        · skip
          have hr_o4 : (fExch (eC o) (nI ja) (nI jb)) = (-2, eC o) := by rw [hc_o]; exact em
          have hq_o4 : qE o o4 := q_act hE hr_o4 (by decide) ho4
          have hE_o4 := hq_o4.1
          have hc_o4 : eC o4 = eC o := hq_o4.2.1.trans hc_o
          refine lv_cvt (y := -2) (congrArg Prod.fst hr_o4) ?_
          refine lv_istore (lv' := [(14, .int (-2)), (13, .int (aT 24 (kpl (eC o)) (nI jb))), (12, .int (aT 24 (kpl (eC o)) (nI ja))), (11, .int (kmo (eC o))), (10, .int (kbu (eC o))), (9, .int (nI jc)), (8, .int (nI jb)), (7, .int (nI ja)), (6, .int (nI k)), (5, .int (nI (knj (eC o)))), (4, .int (nI (knv (eC o)))), (0, .ref (adE d)), (1, .int (nI kd)), (2, .int v0), (3, .int w0)]) hx hb dL_acts_519 hl (by decide) rfl (fun ls hl => ?_)
          refine lv_iload hx hb dL_acts_521 (lv_at hl 7 rfl) ?_
          refine lv_iload hx hb dL_acts_523 (lv_at hl 6 rfl) ?_
          refine lv_icmp_eq (tgt := 573) hx hb dL_acts_525 (by decide) (fun c => False.elim (x0 ((nI_eq (by omega) (by omega)).mp c))) (fun _ => ?_)
          refine lv_iload hx hb dL_acts_528 (lv_at hl 2 rfl) ?_
          refine lv_bipush (v := (-9)) hx hb dL_acts_530 (by decide) ?_
          refine lv_icmp_eq (tgt := 573) hx hb dL_acts_532 (by decide) (fun c532 => ?_) (fun c532 => ?_)
          · skip
            refine lv_iconst (v := 0) hx hb dL_acts_573 (by decide) ?_
            refine lv_istore (lv' := [(15, .int 0), (14, .int (-2)), (13, .int (aT 24 (kpl (eC o)) (nI jb))), (12, .int (aT 24 (kpl (eC o)) (nI ja))), (11, .int (kmo (eC o))), (10, .int (kbu (eC o))), (9, .int (nI jc)), (8, .int (nI jb)), (7, .int (nI ja)), (6, .int (nI k)), (5, .int (nI (knj (eC o)))), (4, .int (nI (knv (eC o)))), (0, .ref (adE d)), (1, .int (nI kd)), (2, .int v0), (3, .int w0)]) hx hb dL_acts_574 hl (by decide) rfl (fun ls hl => ?_)
            refine lv_iload hx hb dL_acts_576 (lv_at hl 0 rfl) ?_
            refine lv_if_eq (tgt := 636) hx hb dL_acts_578 (by decide) (fun _ => ?_) (fun c => absurd c (by decide))
            refine lv_iload hx hb dL_acts_636 (lv_at hl 1 rfl) ?_
            refine lv_iload hx hb dL_acts_638 (lv_at hl 8 rfl) ?_
            refine lv_iload hx hb dL_acts_640 (lv_at hl 7 rfl) ?_
            refine lv_icmp_ne (tgt := 649) hx hb dL_acts_642 (by decide) (fun _ => ?_) (fun c => False.elim (x0 ((nI_eq (by omega) (by omega)).mp c)))
            refine lv_bipush (v := (-2)) hx hb dL_acts_649 (by decide) ?_
            refine lv_icmp_ne (tgt := 658) hx hb dL_acts_651 (by decide) (fun c => absurd c (by decide)) (fun _ => ?_)
            refine lv_iconst (v := 1) hx hb dL_acts_654 (by decide) ?_
            refine lv_goto (tgt := 659) hx hb dL_acts_655 (by decide) ?_
            exact m_ret (ty := .boolean) o4 hx hb hr hlocks rfl ⟨rfl, ⟨hE_o4, (by rw [hc_o4]; exact hv0)⟩⟩ hP hD hS dL_acts_659
          · skip
            refine lv_iload hx hb dL_acts_535 (lv_at hl 1 rfl) ?_
            refine lv_bipush (v := (-9)) hx hb dL_acts_537 (by decide) ?_
            refine lv_icmp_eq (tgt := 573) hx hb dL_acts_539 (by decide) (fun c539 => ?_) (fun c539 => ?_)
            · skip
              refine lv_iconst (v := 0) hx hb dL_acts_573 (by decide) ?_
              refine lv_istore (lv' := [(15, .int 0), (14, .int (-2)), (13, .int (aT 24 (kpl (eC o)) (nI jb))), (12, .int (aT 24 (kpl (eC o)) (nI ja))), (11, .int (kmo (eC o))), (10, .int (kbu (eC o))), (9, .int (nI jc)), (8, .int (nI jb)), (7, .int (nI ja)), (6, .int (nI k)), (5, .int (nI (knj (eC o)))), (4, .int (nI (knv (eC o)))), (0, .ref (adE d)), (1, .int (nI kd)), (2, .int v0), (3, .int w0)]) hx hb dL_acts_574 hl (by decide) rfl (fun ls hl => ?_)
              refine lv_iload hx hb dL_acts_576 (lv_at hl 0 rfl) ?_
              refine lv_if_eq (tgt := 636) hx hb dL_acts_578 (by decide) (fun _ => ?_) (fun c => absurd c (by decide))
              refine lv_iload hx hb dL_acts_636 (lv_at hl 1 rfl) ?_
              refine lv_iload hx hb dL_acts_638 (lv_at hl 8 rfl) ?_
              refine lv_iload hx hb dL_acts_640 (lv_at hl 7 rfl) ?_
              refine lv_icmp_ne (tgt := 649) hx hb dL_acts_642 (by decide) (fun _ => ?_) (fun c => False.elim (x0 ((nI_eq (by omega) (by omega)).mp c)))
              refine lv_bipush (v := (-2)) hx hb dL_acts_649 (by decide) ?_
              refine lv_icmp_ne (tgt := 658) hx hb dL_acts_651 (by decide) (fun c => absurd c (by decide)) (fun _ => ?_)
              refine lv_iconst (v := 1) hx hb dL_acts_654 (by decide) ?_
              refine lv_goto (tgt := 659) hx hb dL_acts_655 (by decide) ?_
              exact m_ret (ty := .boolean) o4 hx hb hr hlocks rfl ⟨rfl, ⟨hE_o4, (by rw [hc_o4]; exact hv0)⟩⟩ hP hD hS dL_acts_659
            · skip
              refine lv_iload hx hb dL_acts_542 (lv_at hl 2 rfl) ?_
              refine lv_iload hx hb dL_acts_544 (lv_at hl 1 rfl) ?_
              refine lv_icmp_eq (tgt := 573) hx hb dL_acts_546 (by decide) (fun c546 => ?_) (fun c546 => ?_)
              · skip
                refine lv_iconst (v := 0) hx hb dL_acts_573 (by decide) ?_
                refine lv_istore (lv' := [(15, .int 0), (14, .int (-2)), (13, .int (aT 24 (kpl (eC o)) (nI jb))), (12, .int (aT 24 (kpl (eC o)) (nI ja))), (11, .int (kmo (eC o))), (10, .int (kbu (eC o))), (9, .int (nI jc)), (8, .int (nI jb)), (7, .int (nI ja)), (6, .int (nI k)), (5, .int (nI (knj (eC o)))), (4, .int (nI (knv (eC o)))), (0, .ref (adE d)), (1, .int (nI kd)), (2, .int v0), (3, .int w0)]) hx hb dL_acts_574 hl (by decide) rfl (fun ls hl => ?_)
                refine lv_iload hx hb dL_acts_576 (lv_at hl 0 rfl) ?_
                refine lv_if_eq (tgt := 636) hx hb dL_acts_578 (by decide) (fun _ => ?_) (fun c => absurd c (by decide))
                refine lv_iload hx hb dL_acts_636 (lv_at hl 1 rfl) ?_
                refine lv_iload hx hb dL_acts_638 (lv_at hl 8 rfl) ?_
                refine lv_iload hx hb dL_acts_640 (lv_at hl 7 rfl) ?_
                refine lv_icmp_ne (tgt := 649) hx hb dL_acts_642 (by decide) (fun _ => ?_) (fun c => False.elim (x0 ((nI_eq (by omega) (by omega)).mp c)))
                refine lv_bipush (v := (-2)) hx hb dL_acts_649 (by decide) ?_
                refine lv_icmp_ne (tgt := 658) hx hb dL_acts_651 (by decide) (fun c => absurd c (by decide)) (fun _ => ?_)
                refine lv_iconst (v := 1) hx hb dL_acts_654 (by decide) ?_
                refine lv_goto (tgt := 659) hx hb dL_acts_655 (by decide) ?_
                exact m_ret (ty := .boolean) o4 hx hb hr hlocks rfl ⟨rfl, ⟨hE_o4, (by rw [hc_o4]; exact hv0)⟩⟩ hP hD hS dL_acts_659
              · skip
                refine lv_aload_n hx hb dL_acts_549 rfl (lv_at hl 11 rfl) ?_
                refine lv_iload hx hb dL_acts_550 (lv_at hl 7 rfl) ?_
                refine lv_iconst (v := 1) hx hb dL_acts_552 (by decide) ?_
                refine xpV (rest := []) ⟨hx, hb, hml, hown, hts⟩ (x_job l G cI cQ d o4 hE_o4 (nI ja) 1) (cwV 2 hts gL_acts_X4_job rfl rfl rfl cd_X4_job ⟨Nat.le_of_ble_eq_true rfl, Nat.le_of_ble_eq_true rfl⟩) hK hP rfl hl.1 rfl (Nat.le_of_ble_eq_true rfl) dL_acts_553 ⟨Nat.le_of_ble_eq_true rfl, Nat.le_of_ble_eq_true rfl⟩ ?_
                refine lv_cvt (y := (nI (qN (eC o) ja))) (by rw [hc_o4]; exact vj1 w.1 hja) ?_
                refine lv_aload_n hx hb dL_acts_556 rfl (lv_at hl 11 rfl) ?_
                refine lv_iload hx hb dL_acts_557 (lv_at hl 6 rfl) ?_
                refine lv_iconst (v := 1) hx hb dL_acts_559 (by decide) ?_
                refine xpV (rest := [.int (nI (qN (eC o) ja))]) ⟨hx, hb, hml, hown, hts⟩ (x_job l G cI cQ d o4 hE_o4 (nI jb) 1) (cwV 2 hts gL_acts_X4_job rfl rfl rfl cd_X4_job ⟨Nat.le_of_ble_eq_true rfl, Nat.le_of_ble_eq_true rfl⟩) hK hP rfl hl.1 rfl (Nat.le_of_ble_eq_true rfl) dL_acts_560 ⟨Nat.le_of_ble_eq_true rfl, Nat.le_of_ble_eq_true rfl⟩ ?_
                refine lv_cvt (y := (nI (qN (eC o) jb))) (by rw [hc_o4]; exact vj1 w.1 hjb) ?_
                refine lv_iadd hx hb dL_acts_563 ?_
                refine lv_cvt (y := (nI (qN (eC o) ja + qN (eC o) jb))) (nI_add _ _) ?_
                refine lv_iload hx hb dL_acts_564 (lv_at hl 4 rfl) ?_
                refine lv_icmp_gt (tgt := 573) hx hb dL_acts_566 (by decide) (fun c566 => ?_) (fun c566 => ?_)
                · skip
                  refine lv_iconst (v := 0) hx hb dL_acts_573 (by decide) ?_
                  refine lv_istore (lv' := [(15, .int 0), (14, .int (-2)), (13, .int (aT 24 (kpl (eC o)) (nI jb))), (12, .int (aT 24 (kpl (eC o)) (nI ja))), (11, .int (kmo (eC o))), (10, .int (kbu (eC o))), (9, .int (nI jc)), (8, .int (nI jb)), (7, .int (nI ja)), (6, .int (nI k)), (5, .int (nI (knj (eC o)))), (4, .int (nI (knv (eC o)))), (0, .ref (adE d)), (1, .int (nI kd)), (2, .int v0), (3, .int w0)]) hx hb dL_acts_574 hl (by decide) rfl (fun ls hl => ?_)
                  refine lv_iload hx hb dL_acts_576 (lv_at hl 0 rfl) ?_
                  refine lv_if_eq (tgt := 636) hx hb dL_acts_578 (by decide) (fun _ => ?_) (fun c => absurd c (by decide))
                  refine lv_iload hx hb dL_acts_636 (lv_at hl 1 rfl) ?_
                  refine lv_iload hx hb dL_acts_638 (lv_at hl 8 rfl) ?_
                  refine lv_iload hx hb dL_acts_640 (lv_at hl 7 rfl) ?_
                  refine lv_icmp_ne (tgt := 649) hx hb dL_acts_642 (by decide) (fun _ => ?_) (fun c => False.elim (x0 ((nI_eq (by omega) (by omega)).mp c)))
                  refine lv_bipush (v := (-2)) hx hb dL_acts_649 (by decide) ?_
                  refine lv_icmp_ne (tgt := 658) hx hb dL_acts_651 (by decide) (fun c => absurd c (by decide)) (fun _ => ?_)
                  refine lv_iconst (v := 1) hx hb dL_acts_654 (by decide) ?_
                  refine lv_goto (tgt := 659) hx hb dL_acts_655 (by decide) ?_
                  exact m_ret (ty := .boolean) o4 hx hb hr hlocks rfl ⟨rfl, ⟨hE_o4, (by rw [hc_o4]; exact hv0)⟩⟩ hP hD hS dL_acts_659
                · skip
                  exfalso
                  rcases mb with q | q | q | q
                  · exact c532 ((cp9 w.1 hja).mpr q)
                  · exact c539 ((cp9 w.1 hjb).mpr q)
                  · exact c546 ((cpp w.1 hja hjb).mpr q)
                  · exact absurd ((bu_le w (by have := ci_q w.1 hja; have := ci_q w.1 hjb; omega)).mp (Int32.not_lt.mp c566)) (by omega)
      refine lv_iload_n hx hb dL_acts_225 rfl (lv_at hl 10 rfl) ?_
      have hk6 : kd = 6 ∨ kd = 7 ∨ kd = 8 ∨ kd = 9 ∨ kd = 10 ∨ kd = 11 ∨ kd = 12 ∨ kd = 13 ∨ kd = 14 ∨ kd = 15 ∨ kd = 16 ∨ kd = 17 := by
        have : ¬ kd < 6 := fun q => c25 ((nI_ltI (b := 6) (by omega) (by decide)).mpr q)
        omega
      rcases hk6 with hq6 | hq6 | hq6 | hq6 | hq6 | hq6 | hq6 | hq6 | hq6 | hq6 | hq6 | hq6
      · refine lv_cvt (y := nI 6) (congrArg nI hq6) ?_
        refine lv_tableIn (off := 58) (tgt := 284) hx hb dL_acts_226 (by decide) (by decide) rfl (by decide) ?_
        rcases fin_sp w hja with ⟨n9, em, wm, p9⟩ | ⟨n9, em⟩
        · skip
          refine lv_iload hx hb dL_acts_284 (lv_at hl 0 rfl) ?_
          refine lv_bipush (v := (-9)) hx hb dL_acts_286 (by decide) ?_
          refine lv_icmp_ne (tgt := 295) hx hb dL_acts_288 (by decide) (fun _ => ?_) (fun c => False.elim (n9 ((cp9 w.1 hja).mp c)))
          have p6 := ci_p6 w.1 hja n9
          rw [cpl w.1 hja n9] at hl
          refine lv_aload_n hx hb dL_acts_295 rfl (lv_at hl 9 rfl) ?_
          refine lv_iload hx hb dL_acts_296 (lv_at hl 0 rfl) ?_
          refine lv_iconst (v := 1) hx hb dL_acts_298 (by decide) ?_
          refine xpV (rest := []) ⟨hx, hb, hml, hown, hts⟩ (x_server l G cI cQ d o hE (nI (pN (eC o) ja)) 1) (cwV 2 hts gL_acts_X4_server rfl rfl rfl cd_X4_server ⟨Nat.le_of_ble_eq_true rfl, Nat.le_of_ble_eq_true rfl⟩) hK hP rfl hl.1 rfl (Nat.le_of_ble_eq_true rfl) dL_acts_299 ⟨Nat.le_of_ble_eq_true rfl, Nat.le_of_ble_eq_true rfl⟩ ?_
          refine lv_cvt (y := (nI (loadN (eC o) (pN (eC o) ja)))) (vs1 w.1 p6.1) ?_
          refine lv_istore (lv' := [(13, .int (nI (loadN (eC o) (pN (eC o) ja)))), (12, .int (nI (pN (eC o) ja))), (11, .int (kmo (eC o))), (10, .int (kbu (eC o))), (9, .int (nI jc)), (8, .int (nI jb)), (7, .int (nI ja)), (6, .int (nI k)), (5, .int (nI (knj (eC o)))), (4, .int (nI (knv (eC o)))), (0, .ref (adE d)), (1, .int (nI kd)), (2, .int v0), (3, .int w0)]) hx hb dL_acts_302 hl (by decide) rfl (fun ls hl => ?_)
          refine lv_aload_n hx hb dL_acts_304 rfl (lv_at hl 10 rfl) ?_
          refine lv_iload hx hb dL_acts_305 (lv_at hl 6 rfl) ?_
          refine xmV (rest := []) ⟨hx, hb, hml, hown, hts⟩ (x_finish l G cI cQ d o hE (nI ja) _) (cwV 1 hts gL_acts_X4_finish rfl rfl rfl cd_X4_finish ⟨Nat.le_of_ble_eq_true rfl, Nat.le_of_ble_eq_true rfl⟩) hK hP hD hS hA rfl hl.1 rfl (Nat.le_of_ble_eq_true rfl) dL_acts_307 ⟨Nat.le_of_ble_eq_true rfl, Nat.le_of_ble_eq_true rfl⟩ (fun o5 H locs ho5 hP hD hS => ?_)
          have hr_o5 : (fEnd (eC o) (nI ja)) = (nI (loadN (eC o) (pN (eC o) ja)) - nI (zN (eC o) ja), sEnd (eC o) (nI ja)) := by rw [hc_o]; exact em
          have hE_o5 : EI o5 := ei_act hE (by rw [hr_o5]; exact wm) ho5
          have hc_o5 : eC o5 = sEnd (eC o) (nI ja) := by rw [ho5]; exact congrArg Prod.snd hr_o5
          have hh_o5 := hh_act (o := o) (by rw [hr_o5]; exact (by have := load_le w.1 (pN (eC o) ja); have := load_z w.1 hja rfl; show ¬ nI _ - nI _ < 0; rw [pk_sub this]; exact nI_pos (by omega))) ho5
          refine lv_cvt (y := nI (loadN (eC o) (pN (eC o) ja)) - nI (zN (eC o) ja)) (congrArg Prod.fst hr_o5) ?_
          refine lv_istore (lv' := [(14, .int (nI (loadN (eC o) (pN (eC o) ja)) - nI (zN (eC o) ja))), (13, .int (nI (loadN (eC o) (pN (eC o) ja)))), (12, .int (nI (pN (eC o) ja))), (11, .int (kmo (eC o))), (10, .int (kbu (eC o))), (9, .int (nI jc)), (8, .int (nI jb)), (7, .int (nI ja)), (6, .int (nI k)), (5, .int (nI (knj (eC o)))), (4, .int (nI (knv (eC o)))), (0, .ref (adE d)), (1, .int (nI kd)), (2, .int v0), (3, .int w0)]) hx hb dL_acts_310 hl (by decide) rfl (fun ls hl => ?_)
          refine lv_iload hx hb dL_acts_312 (lv_at hl 0 rfl) ?_
          refine lv_iload hx hb dL_acts_314 (lv_at hl 2 rfl) ?_
          refine lv_bipush (v := (-9)) hx hb dL_acts_316 (by decide) ?_
          refine lv_icmp_ne (tgt := 326) hx hb dL_acts_318 (by decide) (fun _ => ?_) (fun c => False.elim (ne9 (by have := p6.2; omega) c))
          refine lv_iload hx hb dL_acts_326 (lv_at hl 1 rfl) ?_
          refine lv_aload_n hx hb dL_acts_328 rfl (lv_at hl 11 rfl) ?_
          refine lv_iload hx hb dL_acts_329 (lv_at hl 7 rfl) ?_
          refine lv_iconst (v := 0) hx hb dL_acts_331 (by decide) ?_
          refine xpV (rest := [.int (nI (loadN (eC o) (pN (eC o) ja))), .int (nI (loadN (eC o) (pN (eC o) ja)) - nI (zN (eC o) ja))]) ⟨hx, hb, hml, hown, hts⟩ (x_job l G cI cQ d o5 hE_o5 (nI ja) 0) (cwV 2 hts gL_acts_X4_job rfl rfl rfl cd_X4_job ⟨Nat.le_of_ble_eq_true rfl, Nat.le_of_ble_eq_true rfl⟩) hK hP rfl hl.1 rfl (Nat.le_of_ble_eq_true rfl) dL_acts_332 ⟨Nat.le_of_ble_eq_true rfl, Nat.le_of_ble_eq_true rfl⟩ ?_
          refine lv_cvt (y := (nI (zN (eC o) ja))) (by rw [hc_o5]; exact vj0 wm.1 hja) ?_
          refine lv_isub hx hb dL_acts_335 ?_
          refine lv_icmp_ne (tgt := 366) hx hb dL_acts_336 (by decide) (fun c => False.elim (c rfl)) (fun _ => ?_)
          refine lv_aload_n hx hb dL_acts_339 rfl (lv_at hl 11 rfl) ?_
          refine lv_iload hx hb dL_acts_340 (lv_at hl 7 rfl) ?_
          refine lv_iconst (v := 2) hx hb dL_acts_342 (by decide) ?_
          refine xpV (rest := []) ⟨hx, hb, hml, hown, hts⟩ (x_job l G cI cQ d o5 hE_o5 (nI ja) 2) (cwV 2 hts gL_acts_X4_job rfl rfl rfl cd_X4_job ⟨Nat.le_of_ble_eq_true rfl, Nat.le_of_ble_eq_true rfl⟩) hK hP rfl hl.1 rfl (Nat.le_of_ble_eq_true rfl) dL_acts_343 ⟨Nat.le_of_ble_eq_true rfl, Nat.le_of_ble_eq_true rfl⟩ ?_
          refine lv_cvt (y := (-9)) (by rw [hc_o5]; exact (vj2 wm.1 hja).trans ((cp9 wm.1 hja).mpr p9)) ?_
          refine lv_bipush (v := (-9)) hx hb dL_acts_346 (by decide) ?_
          refine lv_icmp_ne (tgt := 366) hx hb dL_acts_348 (by decide) (fun c => absurd c (by decide)) (fun _ => ?_)
          refine lv_aload_n hx hb dL_acts_351 rfl (lv_at hl 11 rfl) ?_
          refine lv_bipush (v := 10) hx hb dL_acts_352 (by decide) ?_
          refine xpV (rest := []) ⟨hx, hb, hml, hown, hts⟩ (x_count l G cI cQ d o5 hE_o5 10) (cwV 1 hts gL_acts_X4_count rfl rfl rfl cd_X4_count ⟨Nat.le_of_ble_eq_true rfl, Nat.le_of_ble_eq_true rfl⟩) hK hP rfl hl.1 rfl (Nat.le_of_ble_eq_true rfl) dL_acts_354 ⟨Nat.le_of_ble_eq_true rfl, Nat.le_of_ble_eq_true rfl⟩ ?_
          refine lv_cvt (y := (kbu (eC o))) (by rw [hc_o5]; rfl) ?_
          refine lv_iload hx hb dL_acts_357 (lv_at hl 4 rfl) ?_
          refine lv_icmp_ne (tgt := 366) hx hb dL_acts_359 (by decide) (fun c => False.elim (c rfl)) (fun _ => ?_)
          refine lv_iconst (v := 1) hx hb dL_acts_362 (by decide) ?_
          refine lv_goto (tgt := 367) hx hb dL_acts_363 (by decide) ?_
          exact m_ret (ty := .boolean) o5 hx hb hr hlocks rfl ⟨rfl, ⟨hE_o5, (by rw [hc_o5]; exact hv0)⟩⟩ hP hD hS dL_acts_367
        · skip
          refine lv_iload hx hb dL_acts_284 (lv_at hl 0 rfl) ?_
          refine lv_bipush (v := (-9)) hx hb dL_acts_286 (by decide) ?_
          refine lv_icmp_ne (tgt := 295) hx hb dL_acts_288 (by decide) (fun c => False.elim (c ((cp9 w.1 hja).mpr n9))) (fun _ => ?_)
          refine lv_iconst (v := 0) hx hb dL_acts_291 (by decide) ?_
          refine lv_goto (tgt := 302) hx hb dL_acts_292 (by decide) ?_
          refine lv_istore (lv' := [(13, .int 0), (12, .int (aT 24 (kpl (eC o)) (nI ja))), (11, .int (kmo (eC o))), (10, .int (kbu (eC o))), (9, .int (nI jc)), (8, .int (nI jb)), (7, .int (nI ja)), (6, .int (nI k)), (5, .int (nI (knj (eC o)))), (4, .int (nI (knv (eC o)))), (0, .ref (adE d)), (1, .int (nI kd)), (2, .int v0), (3, .int w0)]) hx hb dL_acts_302 hl (by decide) rfl (fun ls hl => ?_)
          refine lv_aload_n hx hb dL_acts_304 rfl (lv_at hl 10 rfl) ?_
          refine lv_iload hx hb dL_acts_305 (lv_at hl 6 rfl) ?_
          refine xmV (rest := []) ⟨hx, hb, hml, hown, hts⟩ (x_finish l G cI cQ d o hE (nI ja) _) (cwV 1 hts gL_acts_X4_finish rfl rfl rfl cd_X4_finish ⟨Nat.le_of_ble_eq_true rfl, Nat.le_of_ble_eq_true rfl⟩) hK hP hD hS hA rfl hl.1 rfl (Nat.le_of_ble_eq_true rfl) dL_acts_307 ⟨Nat.le_of_ble_eq_true rfl, Nat.le_of_ble_eq_true rfl⟩ (fun o6 H locs ho6 hP hD hS => ?_)
          have hr_o6 : (fEnd (eC o) (nI ja)) = (-2, eC o) := by rw [hc_o]; exact em
          have hq_o6 : qE o o6 := q_act hE hr_o6 (by decide) ho6
          have hE_o6 := hq_o6.1
          have hc_o6 : eC o6 = eC o := hq_o6.2.1.trans hc_o
          refine lv_cvt (y := -2) (congrArg Prod.fst hr_o6) ?_
          refine lv_istore (lv' := [(14, .int (-2)), (13, .int 0), (12, .int (aT 24 (kpl (eC o)) (nI ja))), (11, .int (kmo (eC o))), (10, .int (kbu (eC o))), (9, .int (nI jc)), (8, .int (nI jb)), (7, .int (nI ja)), (6, .int (nI k)), (5, .int (nI (knj (eC o)))), (4, .int (nI (knv (eC o)))), (0, .ref (adE d)), (1, .int (nI kd)), (2, .int v0), (3, .int w0)]) hx hb dL_acts_310 hl (by decide) rfl (fun ls hl => ?_)
          refine lv_iload hx hb dL_acts_312 (lv_at hl 0 rfl) ?_
          refine lv_iload hx hb dL_acts_314 (lv_at hl 2 rfl) ?_
          refine lv_bipush (v := (-9)) hx hb dL_acts_316 (by decide) ?_
          refine lv_icmp_ne (tgt := 326) hx hb dL_acts_318 (by decide) (fun c => False.elim (c ((cp9 w.1 hja).mpr n9))) (fun _ => ?_)
          refine lv_bipush (v := (-2)) hx hb dL_acts_321 (by decide) ?_
          refine lv_goto (tgt := 336) hx hb dL_acts_323 (by decide) ?_
          refine lv_icmp_ne (tgt := 366) hx hb dL_acts_336 (by decide) (fun c => False.elim (c rfl)) (fun _ => ?_)
          refine lv_aload_n hx hb dL_acts_339 rfl (lv_at hl 11 rfl) ?_
          refine lv_iload hx hb dL_acts_340 (lv_at hl 7 rfl) ?_
          refine lv_iconst (v := 2) hx hb dL_acts_342 (by decide) ?_
          refine xpV (rest := []) ⟨hx, hb, hml, hown, hts⟩ (x_job l G cI cQ d o6 hE_o6 (nI ja) 2) (cwV 2 hts gL_acts_X4_job rfl rfl rfl cd_X4_job ⟨Nat.le_of_ble_eq_true rfl, Nat.le_of_ble_eq_true rfl⟩) hK hP rfl hl.1 rfl (Nat.le_of_ble_eq_true rfl) dL_acts_343 ⟨Nat.le_of_ble_eq_true rfl, Nat.le_of_ble_eq_true rfl⟩ ?_
          refine lv_cvt (y := (-9)) (by rw [hc_o6]; exact (vj2 w.1 hja).trans ((cp9 w.1 hja).mpr n9)) ?_
          refine lv_bipush (v := (-9)) hx hb dL_acts_346 (by decide) ?_
          refine lv_icmp_ne (tgt := 366) hx hb dL_acts_348 (by decide) (fun c => absurd c (by decide)) (fun _ => ?_)
          refine lv_aload_n hx hb dL_acts_351 rfl (lv_at hl 11 rfl) ?_
          refine lv_bipush (v := 10) hx hb dL_acts_352 (by decide) ?_
          refine xpV (rest := []) ⟨hx, hb, hml, hown, hts⟩ (x_count l G cI cQ d o6 hE_o6 10) (cwV 1 hts gL_acts_X4_count rfl rfl rfl cd_X4_count ⟨Nat.le_of_ble_eq_true rfl, Nat.le_of_ble_eq_true rfl⟩) hK hP rfl hl.1 rfl (Nat.le_of_ble_eq_true rfl) dL_acts_354 ⟨Nat.le_of_ble_eq_true rfl, Nat.le_of_ble_eq_true rfl⟩ ?_
          refine lv_cvt (y := (kbu (eC o))) (by rw [hc_o6]; rfl) ?_
          refine lv_iload hx hb dL_acts_357 (lv_at hl 4 rfl) ?_
          refine lv_icmp_ne (tgt := 366) hx hb dL_acts_359 (by decide) (fun c => False.elim (c rfl)) (fun _ => ?_)
          refine lv_iconst (v := 1) hx hb dL_acts_362 (by decide) ?_
          refine lv_goto (tgt := 367) hx hb dL_acts_363 (by decide) ?_
          exact m_ret (ty := .boolean) o6 hx hb hr hlocks rfl ⟨rfl, ⟨hE_o6, (by rw [hc_o6]; exact hv0)⟩⟩ hP hD hS dL_acts_367
      · refine lv_cvt (y := nI 7) (congrArg nI hq6) ?_
        refine lv_tableIn (off := 142) (tgt := 368) hx hb dL_acts_226 (by decide) (by decide) rfl (by decide) ?_
        exact K368 ls hl
      · refine lv_cvt (y := nI 8) (congrArg nI hq6) ?_
        refine lv_tableIn (off := 142) (tgt := 368) hx hb dL_acts_226 (by decide) (by decide) rfl (by decide) ?_
        exact K368 ls hl
      · refine lv_cvt (y := nI 9) (congrArg nI hq6) ?_
        refine lv_tableIn (off := 142) (tgt := 368) hx hb dL_acts_226 (by decide) (by decide) rfl (by decide) ?_
        exact K368 ls hl
      · refine lv_cvt (y := nI 10) (congrArg nI hq6) ?_
        refine lv_tableIn (off := 276) (tgt := 502) hx hb dL_acts_226 (by decide) (by decide) rfl (by decide) ?_
        exact K502 ls hl
      · refine lv_cvt (y := nI 11) (congrArg nI hq6) ?_
        refine lv_tableIn (off := 276) (tgt := 502) hx hb dL_acts_226 (by decide) (by decide) rfl (by decide) ?_
        exact K502 ls hl
      · refine lv_cvt (y := nI 12) (congrArg nI hq6) ?_
        refine lv_tableIn (off := 434) (tgt := 660) hx hb dL_acts_226 (by decide) (by decide) rfl (by decide) ?_
        refine lv_aload_n hx hb dL_acts_660 rfl (lv_at hl 9 rfl) ?_
        refine lv_iload hx hb dL_acts_661 (lv_at hl 4 rfl) ?_
        refine lv_iconst (v := 2) hx hb dL_acts_663 (by decide) ?_
        refine xpV (rest := []) ⟨hx, hb, hml, hown, hts⟩ (x_job l G cI cQ d o hE (nI jb) 2) (cwV 2 hts gL_acts_X4_job rfl rfl rfl cd_X4_job ⟨Nat.le_of_ble_eq_true rfl, Nat.le_of_ble_eq_true rfl⟩) hK hP rfl hl.1 rfl (Nat.le_of_ble_eq_true rfl) dL_acts_664 ⟨Nat.le_of_ble_eq_true rfl, Nat.le_of_ble_eq_true rfl⟩ ?_
        refine lv_cvt (y := (aT 24 (kpl (eC o)) (nI jb))) (vj2 w.1 hjb) ?_
        refine lv_istore (lv' := [(13, .int (aT 24 (kpl (eC o)) (nI jb))), (12, .int (aT 24 (kpl (eC o)) (nI ja))), (11, .int (kmo (eC o))), (10, .int (kbu (eC o))), (9, .int (nI jc)), (8, .int (nI jb)), (7, .int (nI ja)), (6, .int (nI k)), (5, .int (nI (knj (eC o)))), (4, .int (nI (knv (eC o)))), (0, .ref (adE d)), (1, .int (nI kd)), (2, .int v0), (3, .int w0)]) hx hb dL_acts_667 hl (by decide) rfl (fun ls hl => ?_)
        refine lv_aload_n hx hb dL_acts_669 rfl (lv_at hl 10 rfl) ?_
        refine lv_iload hx hb dL_acts_670 (lv_at hl 4 rfl) ?_
        refine lv_iconst (v := 2) hx hb dL_acts_672 (by decide) ?_
        refine xpV (rest := []) ⟨hx, hb, hml, hown, hts⟩ (x_job l G cI cQ d o hE (nI jc) 2) (cwV 2 hts gL_acts_X4_job rfl rfl rfl cd_X4_job ⟨Nat.le_of_ble_eq_true rfl, Nat.le_of_ble_eq_true rfl⟩) hK hP rfl hl.1 rfl (Nat.le_of_ble_eq_true rfl) dL_acts_673 ⟨Nat.le_of_ble_eq_true rfl, Nat.le_of_ble_eq_true rfl⟩ ?_
        refine lv_cvt (y := (aT 24 (kpl (eC o)) (nI jc))) (vj2 w.1 hjc) ?_
        refine lv_istore (lv' := [(14, .int (aT 24 (kpl (eC o)) (nI jc))), (13, .int (aT 24 (kpl (eC o)) (nI jb))), (12, .int (aT 24 (kpl (eC o)) (nI ja))), (11, .int (kmo (eC o))), (10, .int (kbu (eC o))), (9, .int (nI jc)), (8, .int (nI jb)), (7, .int (nI ja)), (6, .int (nI k)), (5, .int (nI (knj (eC o)))), (4, .int (nI (knv (eC o)))), (0, .ref (adE d)), (1, .int (nI kd)), (2, .int v0), (3, .int w0)]) hx hb dL_acts_676 hl (by decide) rfl (fun ls hl => ?_)
        refine lv_aload_n hx hb dL_acts_678 rfl (lv_at hl 11 rfl) ?_
        refine lv_iload hx hb dL_acts_679 (lv_at hl 7 rfl) ?_
        refine lv_iload hx hb dL_acts_681 (lv_at hl 6 rfl) ?_
        refine lv_iload hx hb dL_acts_683 (lv_at hl 5 rfl) ?_
        refine xmV (rest := []) ⟨hx, hb, hml, hown, hts⟩ (x_ring l G cI cQ d o hE (nI ja) (nI jb) (nI jc) _) (cwV 3 hts gL_acts_X4_ring rfl rfl rfl cd_X4_ring ⟨Nat.le_of_ble_eq_true rfl, Nat.le_of_ble_eq_true rfl⟩) hK hP hD hS hA rfl hl.1 rfl (Nat.le_of_ble_eq_true rfl) dL_acts_685 ⟨Nat.le_of_ble_eq_true rfl, Nat.le_of_ble_eq_true rfl⟩ (fun o7 H locs ho7 hP hD hS => ?_)
        rcases rg_sp w hja hjb hjc with ⟨dd, em, wd, d4, d5, d1, d2, d3, d6, d7, d8⟩ | ⟨mb, em⟩ | ⟨y1, y2, y3, em⟩
        · skip
          have hr_o7 : (fRing (eC o) (nI ja) (nI jb) (nI jc)) = (nI (gtN dd), dd) := by rw [hc_o]; exact em
          have hE_o7 : EI o7 := ei_act hE (by rw [hr_o7]; exact wd) ho7
          have hc_o7 : eC o7 = dd := by rw [ho7]; exact congrArg Prod.snd hr_o7
          have hh_o7 := hh_act (o := o) (by rw [hr_o7]; exact nI_pos (by have := gt_le wd.1; omega)) ho7
          refine lv_cvt (y := nI (gtN dd)) (congrArg Prod.fst hr_o7) ?_
          refine lv_istore (lv' := [(15, .int (nI (gtN dd))), (14, .int (aT 24 (kpl (eC o)) (nI jc))), (13, .int (aT 24 (kpl (eC o)) (nI jb))), (12, .int (aT 24 (kpl (eC o)) (nI ja))), (11, .int (kmo (eC o))), (10, .int (kbu (eC o))), (9, .int (nI jc)), (8, .int (nI jb)), (7, .int (nI ja)), (6, .int (nI k)), (5, .int (nI (knj (eC o)))), (4, .int (nI (knv (eC o)))), (0, .ref (adE d)), (1, .int (nI kd)), (2, .int v0), (3, .int w0)]) hx hb dL_acts_688 hl (by decide) rfl (fun ls hl => ?_)
          refine lv_iload hx hb dL_acts_690 (lv_at hl 0 rfl) ?_
          refine lv_if_lt (tgt := 795) hx hb dL_acts_692 (by decide) (fun c => False.elim (nI_pos (by have := gt_le wd.1; omega) c)) (fun _ => ?_)
          refine lv_iload hx hb dL_acts_695 (lv_at hl 0 rfl) ?_
          refine lv_aload_n hx hb dL_acts_697 rfl (lv_at hl 12 rfl) ?_
          refine lv_iconst (v := 5) hx hb dL_acts_698 (by decide) ?_
          refine xpV (rest := [.int (nI (gtN dd))]) ⟨hx, hb, hml, hown, hts⟩ (x_count l G cI cQ d o7 hE_o7 5) (cwV 1 hts gL_acts_X4_count rfl rfl rfl cd_X4_count ⟨Nat.le_of_ble_eq_true rfl, Nat.le_of_ble_eq_true rfl⟩) hK hP rfl hl.1 rfl (Nat.le_of_ble_eq_true rfl) dL_acts_699 ⟨Nat.le_of_ble_eq_true rfl, Nat.le_of_ble_eq_true rfl⟩ ?_
          refine lv_cvt (y := (nI (gtN dd))) (by rw [hc_o7]; exact vc5 wd.1) ?_
          refine lv_icmp_ne (tgt := 793) hx hb dL_acts_702 (by decide) (fun c => False.elim (c rfl)) (fun _ => ?_)
          refine lv_aload_n hx hb dL_acts_705 rfl (lv_at hl 12 rfl) ?_
          refine lv_iload hx hb dL_acts_706 (lv_at hl 8 rfl) ?_
          refine lv_iconst (v := 2) hx hb dL_acts_708 (by decide) ?_
          refine xpV (rest := []) ⟨hx, hb, hml, hown, hts⟩ (x_job l G cI cQ d o7 hE_o7 (nI ja) 2) (cwV 2 hts gL_acts_X4_job rfl rfl rfl cd_X4_job ⟨Nat.le_of_ble_eq_true rfl, Nat.le_of_ble_eq_true rfl⟩) hK hP rfl hl.1 rfl (Nat.le_of_ble_eq_true rfl) dL_acts_709 ⟨Nat.le_of_ble_eq_true rfl, Nat.le_of_ble_eq_true rfl⟩ ?_
          refine lv_cvt (y := (aT 24 (kpl (eC o)) (nI jb))) (by rw [hc_o7]; exact (vj2 wd.1 (by rw [d5]; exact hja)).trans (pl_pl w.1 wd.1 (by rw [d5]; exact hja) hjb d1)) ?_
          refine lv_iload hx hb dL_acts_712 (lv_at hl 2 rfl) ?_
          refine lv_icmp_ne (tgt := 793) hx hb dL_acts_714 (by decide) (fun c => False.elim (c rfl)) (fun _ => ?_)
          refine lv_aload_n hx hb dL_acts_717 rfl (lv_at hl 12 rfl) ?_
          refine lv_iload hx hb dL_acts_718 (lv_at hl 7 rfl) ?_
          refine lv_iconst (v := 2) hx hb dL_acts_720 (by decide) ?_
          refine xpV (rest := []) ⟨hx, hb, hml, hown, hts⟩ (x_job l G cI cQ d o7 hE_o7 (nI jb) 2) (cwV 2 hts gL_acts_X4_job rfl rfl rfl cd_X4_job ⟨Nat.le_of_ble_eq_true rfl, Nat.le_of_ble_eq_true rfl⟩) hK hP rfl hl.1 rfl (Nat.le_of_ble_eq_true rfl) dL_acts_721 ⟨Nat.le_of_ble_eq_true rfl, Nat.le_of_ble_eq_true rfl⟩ ?_
          refine lv_cvt (y := (aT 24 (kpl (eC o)) (nI jc))) (by rw [hc_o7]; exact (vj2 wd.1 (by rw [d5]; exact hjb)).trans (pl_pl w.1 wd.1 (by rw [d5]; exact hjb) hjc d2)) ?_
          refine lv_iload hx hb dL_acts_724 (lv_at hl 1 rfl) ?_
          refine lv_icmp_ne (tgt := 793) hx hb dL_acts_726 (by decide) (fun c => False.elim (c rfl)) (fun _ => ?_)
          refine lv_aload_n hx hb dL_acts_729 rfl (lv_at hl 12 rfl) ?_
          refine lv_iload hx hb dL_acts_730 (lv_at hl 6 rfl) ?_
          refine lv_iconst (v := 2) hx hb dL_acts_732 (by decide) ?_
          refine xpV (rest := []) ⟨hx, hb, hml, hown, hts⟩ (x_job l G cI cQ d o7 hE_o7 (nI jc) 2) (cwV 2 hts gL_acts_X4_job rfl rfl rfl cd_X4_job ⟨Nat.le_of_ble_eq_true rfl, Nat.le_of_ble_eq_true rfl⟩) hK hP rfl hl.1 rfl (Nat.le_of_ble_eq_true rfl) dL_acts_733 ⟨Nat.le_of_ble_eq_true rfl, Nat.le_of_ble_eq_true rfl⟩ ?_
          refine lv_cvt (y := (aT 24 (kpl (eC o)) (nI ja))) (by rw [hc_o7]; exact (vj2 wd.1 (by rw [d5]; exact hjc)).trans (pl_pl w.1 wd.1 (by rw [d5]; exact hjc) hja d3)) ?_
          refine lv_iload hx hb dL_acts_736 (lv_at hl 3 rfl) ?_
          refine lv_icmp_ne (tgt := 793) hx hb dL_acts_738 (by decide) (fun c => False.elim (c rfl)) (fun _ => ?_)
          refine lv_aload_n hx hb dL_acts_741 rfl (lv_at hl 12 rfl) ?_
          refine lv_bipush (v := 12) hx hb dL_acts_742 (by decide) ?_
          refine xpV (rest := []) ⟨hx, hb, hml, hown, hts⟩ (x_count l G cI cQ d o7 hE_o7 12) (cwV 1 hts gL_acts_X4_count rfl rfl rfl cd_X4_count ⟨Nat.le_of_ble_eq_true rfl, Nat.le_of_ble_eq_true rfl⟩) hK hP rfl hl.1 rfl (Nat.le_of_ble_eq_true rfl) dL_acts_744 ⟨Nat.le_of_ble_eq_true rfl, Nat.le_of_ble_eq_true rfl⟩ ?_
          refine lv_cvt (y := (kmo (eC o) + 3)) (by rw [hc_o7]; exact d6) ?_
          refine lv_iload hx hb dL_acts_747 (lv_at hl 4 rfl) ?_
          refine lv_iconst (v := 3) hx hb dL_acts_749 (by decide) ?_
          refine lv_iadd hx hb dL_acts_750 ?_
          refine lv_icmp_ne (tgt := 793) hx hb dL_acts_751 (by decide) (fun c => False.elim (c rfl)) (fun _ => ?_)
          refine lv_aload_n hx hb dL_acts_754 rfl (lv_at hl 12 rfl) ?_
          refine lv_bipush (v := 10) hx hb dL_acts_755 (by decide) ?_
          refine xpV (rest := []) ⟨hx, hb, hml, hown, hts⟩ (x_count l G cI cQ d o7 hE_o7 10) (cwV 1 hts gL_acts_X4_count rfl rfl rfl cd_X4_count ⟨Nat.le_of_ble_eq_true rfl, Nat.le_of_ble_eq_true rfl⟩) hK hP rfl hl.1 rfl (Nat.le_of_ble_eq_true rfl) dL_acts_757 ⟨Nat.le_of_ble_eq_true rfl, Nat.le_of_ble_eq_true rfl⟩ ?_
          refine lv_cvt (y := (((kbu (eC o) - (nI (qN (eC o) ja))) - (nI (qN (eC o) jb))) - (nI (qN (eC o) jc)))) (by rw [hc_o7]; exact d7) ?_
          refine lv_iload hx hb dL_acts_760 (lv_at hl 5 rfl) ?_
          refine lv_aload_n hx hb dL_acts_762 rfl (lv_at hl 12 rfl) ?_
          refine lv_iload hx hb dL_acts_763 (lv_at hl 8 rfl) ?_
          refine lv_iconst (v := 1) hx hb dL_acts_765 (by decide) ?_
          refine xpV (rest := [.int (kbu (eC o)), .int (((kbu (eC o) - (nI (qN (eC o) ja))) - (nI (qN (eC o) jb))) - (nI (qN (eC o) jc)))]) ⟨hx, hb, hml, hown, hts⟩ (x_job l G cI cQ d o7 hE_o7 (nI ja) 1) (cwV 2 hts gL_acts_X4_job rfl rfl rfl cd_X4_job ⟨Nat.le_of_ble_eq_true rfl, Nat.le_of_ble_eq_true rfl⟩) hK hP rfl hl.1 rfl (Nat.le_of_ble_eq_true rfl) dL_acts_766 ⟨Nat.le_of_ble_eq_true rfl, Nat.le_of_ble_eq_true rfl⟩ ?_
          refine lv_cvt (y := (nI (qN (eC o) ja))) (by rw [hc_o7]; exact (vj1 wd.1 (by rw [d5]; exact hja)).trans (congrArg nI (d8 _))) ?_
          refine lv_isub hx hb dL_acts_769 ?_
          refine lv_aload_n hx hb dL_acts_770 rfl (lv_at hl 12 rfl) ?_
          refine lv_iload hx hb dL_acts_771 (lv_at hl 7 rfl) ?_
          refine lv_iconst (v := 1) hx hb dL_acts_773 (by decide) ?_
          refine xpV (rest := [.int ((kbu (eC o)) - (nI (qN (eC o) ja))), .int (((kbu (eC o) - (nI (qN (eC o) ja))) - (nI (qN (eC o) jb))) - (nI (qN (eC o) jc)))]) ⟨hx, hb, hml, hown, hts⟩ (x_job l G cI cQ d o7 hE_o7 (nI jb) 1) (cwV 2 hts gL_acts_X4_job rfl rfl rfl cd_X4_job ⟨Nat.le_of_ble_eq_true rfl, Nat.le_of_ble_eq_true rfl⟩) hK hP rfl hl.1 rfl (Nat.le_of_ble_eq_true rfl) dL_acts_774 ⟨Nat.le_of_ble_eq_true rfl, Nat.le_of_ble_eq_true rfl⟩ ?_
          refine lv_cvt (y := (nI (qN (eC o) jb))) (by rw [hc_o7]; exact (vj1 wd.1 (by rw [d5]; exact hjb)).trans (congrArg nI (d8 _))) ?_
          refine lv_isub hx hb dL_acts_777 ?_
          refine lv_aload_n hx hb dL_acts_778 rfl (lv_at hl 12 rfl) ?_
          refine lv_iload hx hb dL_acts_779 (lv_at hl 6 rfl) ?_
          refine lv_iconst (v := 1) hx hb dL_acts_781 (by decide) ?_
          refine xpV (rest := [.int (((kbu (eC o)) - (nI (qN (eC o) ja))) - (nI (qN (eC o) jb))), .int (((kbu (eC o) - (nI (qN (eC o) ja))) - (nI (qN (eC o) jb))) - (nI (qN (eC o) jc)))]) ⟨hx, hb, hml, hown, hts⟩ (x_job l G cI cQ d o7 hE_o7 (nI jc) 1) (cwV 2 hts gL_acts_X4_job rfl rfl rfl cd_X4_job ⟨Nat.le_of_ble_eq_true rfl, Nat.le_of_ble_eq_true rfl⟩) hK hP rfl hl.1 rfl (Nat.le_of_ble_eq_true rfl) dL_acts_782 ⟨Nat.le_of_ble_eq_true rfl, Nat.le_of_ble_eq_true rfl⟩ ?_
          refine lv_cvt (y := (nI (qN (eC o) jc))) (by rw [hc_o7]; exact (vj1 wd.1 (by rw [d5]; exact hjc)).trans (congrArg nI (d8 _))) ?_
          refine lv_isub hx hb dL_acts_785 ?_
          refine lv_icmp_ne (tgt := 793) hx hb dL_acts_786 (by decide) (fun c => False.elim (c rfl)) (fun _ => ?_)
          refine lv_iconst (v := 1) hx hb dL_acts_789 (by decide) ?_
          refine lv_goto (tgt := 794) hx hb dL_acts_790 (by decide) ?_
          exact m_ret (ty := .boolean) o7 hx hb hr hlocks rfl ⟨rfl, ⟨hE_o7, (by rw [hc_o7]; exact (by rw [d4]; exact hv0))⟩⟩ hP hD hS dL_acts_794
        · skip
          have hr_o7 : (fRing (eC o) (nI ja) (nI jb) (nI jc)) = (-1, eC o) := by rw [hc_o]; exact em
          have hq_o7 : qE o o7 := q_act hE hr_o7 (by decide) ho7
          have hE_o7 := hq_o7.1
          have hc_o7 : eC o7 = eC o := hq_o7.2.1.trans hc_o
          refine lv_cvt (y := -1) (congrArg Prod.fst hr_o7) ?_
          refine lv_istore (lv' := [(15, .int (-1)), (14, .int (aT 24 (kpl (eC o)) (nI jc))), (13, .int (aT 24 (kpl (eC o)) (nI jb))), (12, .int (aT 24 (kpl (eC o)) (nI ja))), (11, .int (kmo (eC o))), (10, .int (kbu (eC o))), (9, .int (nI jc)), (8, .int (nI jb)), (7, .int (nI ja)), (6, .int (nI k)), (5, .int (nI (knj (eC o)))), (4, .int (nI (knv (eC o)))), (0, .ref (adE d)), (1, .int (nI kd)), (2, .int v0), (3, .int w0)]) hx hb dL_acts_688 hl (by decide) rfl (fun ls hl => ?_)
          refine lv_iload hx hb dL_acts_690 (lv_at hl 0 rfl) ?_
          refine lv_if_lt (tgt := 795) hx hb dL_acts_692 (by decide) (fun _ => ?_) (fun c => False.elim (c (by decide)))
          refine lv_iload hx hb dL_acts_795 (lv_at hl 0 rfl) ?_
          refine lv_iload hx hb dL_acts_797 (lv_at hl 8 rfl) ?_
          refine lv_iload hx hb dL_acts_799 (lv_at hl 7 rfl) ?_
          refine lv_icmp_eq (tgt := 818) hx hb dL_acts_801 (by decide) (fun c801 => ?_) (fun c801 => ?_)
          · skip
            refine lv_iconst (v := (-1)) hx hb dL_acts_818 (by decide) ?_
            refine lv_goto (tgt := 824) hx hb dL_acts_819 (by decide) ?_
            refine lv_icmp_ne (tgt := 831) hx hb dL_acts_824 (by decide) (fun c => absurd c (by decide)) (fun _ => ?_)
            refine lv_iconst (v := 1) hx hb dL_acts_827 (by decide) ?_
            refine lv_goto (tgt := 832) hx hb dL_acts_828 (by decide) ?_
            exact m_ret (ty := .boolean) o7 hx hb hr hlocks rfl ⟨rfl, ⟨hE_o7, (by rw [hc_o7]; exact hv0)⟩⟩ hP hD hS dL_acts_832
          · skip
            refine lv_iload hx hb dL_acts_804 (lv_at hl 7 rfl) ?_
            refine lv_iload hx hb dL_acts_806 (lv_at hl 6 rfl) ?_
            refine lv_icmp_eq (tgt := 818) hx hb dL_acts_808 (by decide) (fun c808 => ?_) (fun c808 => ?_)
            · skip
              refine lv_iconst (v := (-1)) hx hb dL_acts_818 (by decide) ?_
              refine lv_goto (tgt := 824) hx hb dL_acts_819 (by decide) ?_
              refine lv_icmp_ne (tgt := 831) hx hb dL_acts_824 (by decide) (fun c => absurd c (by decide)) (fun _ => ?_)
              refine lv_iconst (v := 1) hx hb dL_acts_827 (by decide) ?_
              refine lv_goto (tgt := 832) hx hb dL_acts_828 (by decide) ?_
              exact m_ret (ty := .boolean) o7 hx hb hr hlocks rfl ⟨rfl, ⟨hE_o7, (by rw [hc_o7]; exact hv0)⟩⟩ hP hD hS dL_acts_832
            · skip
              refine lv_iload hx hb dL_acts_811 (lv_at hl 8 rfl) ?_
              refine lv_iload hx hb dL_acts_813 (lv_at hl 6 rfl) ?_
              refine lv_icmp_ne (tgt := 822) hx hb dL_acts_815 (by decide) (fun c => False.elim (by rcases mb with q | q | q; exact c801 (by rw [q]); exact c808 (by rw [q]); exact c (by rw [q]))) (fun _ => ?_)
              refine lv_iconst (v := (-1)) hx hb dL_acts_818 (by decide) ?_
              refine lv_goto (tgt := 824) hx hb dL_acts_819 (by decide) ?_
              refine lv_icmp_ne (tgt := 831) hx hb dL_acts_824 (by decide) (fun c => absurd c (by decide)) (fun _ => ?_)
              refine lv_iconst (v := 1) hx hb dL_acts_827 (by decide) ?_
              refine lv_goto (tgt := 832) hx hb dL_acts_828 (by decide) ?_
              exact m_ret (ty := .boolean) o7 hx hb hr hlocks rfl ⟨rfl, ⟨hE_o7, (by rw [hc_o7]; exact hv0)⟩⟩ hP hD hS dL_acts_832
        · skip
          have hr_o7 : (fRing (eC o) (nI ja) (nI jb) (nI jc)) = (-2, eC o) := by rw [hc_o]; exact em
          have hq_o7 : qE o o7 := q_act hE hr_o7 (by decide) ho7
          have hE_o7 := hq_o7.1
          have hc_o7 : eC o7 = eC o := hq_o7.2.1.trans hc_o
          refine lv_cvt (y := -2) (congrArg Prod.fst hr_o7) ?_
          refine lv_istore (lv' := [(15, .int (-2)), (14, .int (aT 24 (kpl (eC o)) (nI jc))), (13, .int (aT 24 (kpl (eC o)) (nI jb))), (12, .int (aT 24 (kpl (eC o)) (nI ja))), (11, .int (kmo (eC o))), (10, .int (kbu (eC o))), (9, .int (nI jc)), (8, .int (nI jb)), (7, .int (nI ja)), (6, .int (nI k)), (5, .int (nI (knj (eC o)))), (4, .int (nI (knv (eC o)))), (0, .ref (adE d)), (1, .int (nI kd)), (2, .int v0), (3, .int w0)]) hx hb dL_acts_688 hl (by decide) rfl (fun ls hl => ?_)
          refine lv_iload hx hb dL_acts_690 (lv_at hl 0 rfl) ?_
          refine lv_if_lt (tgt := 795) hx hb dL_acts_692 (by decide) (fun _ => ?_) (fun c => False.elim (c (by decide)))
          refine lv_iload hx hb dL_acts_795 (lv_at hl 0 rfl) ?_
          refine lv_iload hx hb dL_acts_797 (lv_at hl 8 rfl) ?_
          refine lv_iload hx hb dL_acts_799 (lv_at hl 7 rfl) ?_
          refine lv_icmp_eq (tgt := 818) hx hb dL_acts_801 (by decide) (fun c => False.elim (y1 ((nI_eq (by omega) (by omega)).mp c))) (fun _ => ?_)
          refine lv_iload hx hb dL_acts_804 (lv_at hl 7 rfl) ?_
          refine lv_iload hx hb dL_acts_806 (lv_at hl 6 rfl) ?_
          refine lv_icmp_eq (tgt := 818) hx hb dL_acts_808 (by decide) (fun c => False.elim (y2 ((nI_eq (by omega) (by omega)).mp c))) (fun _ => ?_)
          refine lv_iload hx hb dL_acts_811 (lv_at hl 8 rfl) ?_
          refine lv_iload hx hb dL_acts_813 (lv_at hl 6 rfl) ?_
          refine lv_icmp_ne (tgt := 822) hx hb dL_acts_815 (by decide) (fun _ => ?_) (fun c => False.elim (y3 ((nI_eq (by omega) (by omega)).mp c)))
          refine lv_bipush (v := (-2)) hx hb dL_acts_822 (by decide) ?_
          refine lv_icmp_ne (tgt := 831) hx hb dL_acts_824 (by decide) (fun c => absurd c (by decide)) (fun _ => ?_)
          refine lv_iconst (v := 1) hx hb dL_acts_827 (by decide) ?_
          refine lv_goto (tgt := 832) hx hb dL_acts_828 (by decide) ?_
          exact m_ret (ty := .boolean) o7 hx hb hr hlocks rfl ⟨rfl, ⟨hE_o7, (by rw [hc_o7]; exact hv0)⟩⟩ hP hD hS dL_acts_832
      · refine lv_cvt (y := nI 13) (congrArg nI hq6) ?_
        refine lv_tableIn (off := 607) (tgt := 833) hx hb dL_acts_226 (by decide) (by decide) rfl (by decide) ?_
        refine lv_iconst (v := 1) hx hb dL_acts_833 (by decide) ?_
        refine lv_iload_n hx hb dL_acts_834 rfl (lv_at hl 11 rfl) ?_
        refine lv_bipush (v := 30) hx hb dL_acts_835 (by decide) ?_
        refine xpS (rest := [.int 1]) ⟨hx, hb, hml, hown, hts⟩ (c_L_low l G cI cQ d v0 30 (by decide) (by omega)) (cwS 2 hts gL_acts_L_low rfl rfl rfl cd_L_low ⟨Nat.le_of_ble_eq_true rfl, Nat.le_of_ble_eq_true rfl⟩) hK P_nil rfl hl.1 rfl (Nat.le_of_ble_eq_true rfl) dL_acts_837 ⟨Nat.le_of_ble_eq_true rfl, Nat.le_of_ble_eq_true rfl⟩ (fun r_se hr_se => ?_)
        obtain ⟨se, hse, e_se⟩ := hr_se
        subst e_se
        refine lv_iadd hx hb dL_acts_840 ?_
        refine lv_cvt (y := (nI (1 + se))) (nI_add 1 se) ?_
        refine lv_istore (lv' := [(13, .int (nI (1 + se))), (12, .int (aT 24 (kpl (eC o)) (nI ja))), (11, .int (kmo (eC o))), (10, .int (kbu (eC o))), (9, .int (nI jc)), (8, .int (nI jb)), (7, .int (nI ja)), (6, .int (nI k)), (5, .int (nI (knj (eC o)))), (4, .int (nI (knv (eC o)))), (0, .ref (adE d)), (1, .int (nI kd)), (2, .int v0), (3, .int w0)]) hx hb dL_acts_841 hl (by decide) rfl (fun ls hl => ?_)
        refine lv_aload_n hx hb dL_acts_843 rfl (lv_at hl 10 rfl) ?_
        refine lv_iconst (v := 0) hx hb dL_acts_844 (by decide) ?_
        refine xmV (rest := []) ⟨hx, hb, hml, hown, hts⟩ (x_plan l G cI cQ d o hE 0 _) (cwV 1 hts gL_acts_X4_plan rfl rfl rfl cd_X4_plan ⟨Nat.le_of_ble_eq_true rfl, Nat.le_of_ble_eq_true rfl⟩) hK hP hD hS hA rfl hl.1 rfl (Nat.le_of_ble_eq_true rfl) dL_acts_845 ⟨Nat.le_of_ble_eq_true rfl, Nat.le_of_ble_eq_true rfl⟩ (fun o8 H locs ho8 hP hD hS => ?_)
        refine lv_cvt (y := (nI (pS (eC o)))) (pl0 _ _) ?_
        have hq_o8 : qE o o8 := q_tr hq_o (q_plan hE ho8)
        have hE_o8 := hq_o8.1
        refine lv_istore (lv' := [(14, .int (nI (pS (eC o)))), (13, .int (nI (1 + se))), (12, .int (aT 24 (kpl (eC o)) (nI ja))), (11, .int (kmo (eC o))), (10, .int (kbu (eC o))), (9, .int (nI jc)), (8, .int (nI jb)), (7, .int (nI ja)), (6, .int (nI k)), (5, .int (nI (knj (eC o)))), (4, .int (nI (knv (eC o)))), (0, .ref (adE d)), (1, .int (nI kd)), (2, .int v0), (3, .int w0)]) hx hb dL_acts_848 hl (by decide) rfl (fun ls hl => ?_)
        refine lv_aload_n hx hb dL_acts_850 rfl (lv_at hl 11 rfl) ?_
        refine lv_iload hx hb dL_acts_851 (lv_at hl 1 rfl) ?_
        refine xmV (rest := []) ⟨hx, hb, hml, hown, hts⟩ (x_even l G cI cQ d o8 hE_o8 (nI (1 + se)) _) (cwV 1 hts gL_acts_X4_even rfl rfl rfl cd_X4_even ⟨Nat.le_of_ble_eq_true rfl, Nat.le_of_ble_eq_true rfl⟩) hK hP hD hS hA rfl hl.1 rfl (Nat.le_of_ble_eq_true rfl) dL_acts_853 ⟨Nat.le_of_ble_eq_true rfl, Nat.le_of_ble_eq_true rfl⟩ (fun o9 H locs ho9 hP hD hS => ?_)
        have ev_ := evn_sp w (eX o8) (show 1 ≤ 1 + se by omega) (show 1 + se ≤ 30 by omega)
        have eo_ : eC o8 = eC o := hq_o8.2.1
        rw [← eo_] at ev_
        have hE_o9 : EI o9 := ei_even hE_o8 ev_.2.1 ho9
        have hn_o9 : 0 < knv (eC o9) := by rw [ho9]; show 0 < knv (fWalk _ _ _).2.1; rw [ev_.2.2, eo_]; exact hv0
        refine lv_cvt (y := (nI (min (1 + se) (pS (eC o))))) (ev_.1.trans (by rw [eo_])) ?_
        refine lv_iload hx hb dL_acts_856 (lv_at hl 0 rfl) ?_
        refine lv_iload hx hb dL_acts_858 (lv_at hl 1 rfl) ?_
        refine lv_icmp_ge (tgt := 868) hx hb dL_acts_860 (by decide) (fun c860 => ?_) (fun c860 => ?_)
        · skip
          have hps := (pd_ok w).2.2.2.2.2.1
          refine lv_iload hx hb dL_acts_868 (lv_at hl 1 rfl) ?_
          refine lv_icmp_ne (tgt := 877) hx hb dL_acts_870 (by decide) (fun c => False.elim (c (by rw [Nat.min_eq_left ((nI_leI (by omega) (by omega)).mp c860)]))) (fun _ => ?_)
          refine lv_iconst (v := 1) hx hb dL_acts_873 (by decide) ?_
          refine lv_goto (tgt := 878) hx hb dL_acts_874 (by decide) ?_
          exact m_ret (ty := .boolean) o9 hx hb hr hlocks rfl ⟨rfl, ⟨hE_o9, hn_o9⟩⟩ hP hD hS dL_acts_878
        · skip
          have hps := (pd_ok w).2.2.2.2.2.1
          refine lv_iload hx hb dL_acts_863 (lv_at hl 0 rfl) ?_
          refine lv_goto (tgt := 870) hx hb dL_acts_865 (by decide) ?_
          refine lv_icmp_ne (tgt := 877) hx hb dL_acts_870 (by decide) (fun c => False.elim (c (by rw [Nat.min_eq_right (Nat.le_of_lt (Nat.lt_of_not_le (fun q => c860 ((nI_leI (by omega) (by omega)).mpr q))))]))) (fun _ => ?_)
          refine lv_iconst (v := 1) hx hb dL_acts_873 (by decide) ?_
          refine lv_goto (tgt := 878) hx hb dL_acts_874 (by decide) ?_
          exact m_ret (ty := .boolean) o9 hx hb hr hlocks rfl ⟨rfl, ⟨hE_o9, hn_o9⟩⟩ hP hD hS dL_acts_878
      · refine lv_cvt (y := nI 14) (congrArg nI hq6) ?_
        refine lv_tableIn (off := 653) (tgt := 879) hx hb dL_acts_226 (by decide) (by decide) rfl (by decide) ?_
        refine lv_aload_n hx hb dL_acts_879 rfl (lv_at hl 9 rfl) ?_
        refine lv_iload hx hb dL_acts_880 (lv_at hl 6 rfl) ?_
        refine lv_iconst (v := 0) hx hb dL_acts_882 (by decide) ?_
        refine xpV (rest := []) ⟨hx, hb, hml, hown, hts⟩ (x_server l G cI cQ d o hE (nI k) 0) (cwV 2 hts gL_acts_X4_server rfl rfl rfl cd_X4_server ⟨Nat.le_of_ble_eq_true rfl, Nat.le_of_ble_eq_true rfl⟩) hK hP rfl hl.1 rfl (Nat.le_of_ble_eq_true rfl) dL_acts_883 ⟨Nat.le_of_ble_eq_true rfl, Nat.le_of_ble_eq_true rfl⟩ ?_
        by_cases ko : kop (eC o) k = 1
        · skip
          refine lv_cvt (y := 1) ((vs0 w.1 hk).trans (congrArg nI (if_pos ko))) ?_
          refine lv_iconst (v := 1) hx hb dL_acts_886 (by decide) ?_
          refine lv_icmp_ne (tgt := 894) hx hb dL_acts_887 (by decide) (fun c => absurd c (by decide)) (fun _ => ?_)
          refine lv_iconst (v := 1) hx hb dL_acts_890 (by decide) ?_
          refine lv_goto (tgt := 895) hx hb dL_acts_891 (by decide) ?_
          refine lv_istore (lv' := [(13, .int 1), (12, .int (aT 24 (kpl (eC o)) (nI ja))), (11, .int (kmo (eC o))), (10, .int (kbu (eC o))), (9, .int (nI jc)), (8, .int (nI jb)), (7, .int (nI ja)), (6, .int (nI k)), (5, .int (nI (knj (eC o)))), (4, .int (nI (knv (eC o)))), (0, .ref (adE d)), (1, .int (nI kd)), (2, .int v0), (3, .int w0)]) hx hb dL_acts_895 hl (by decide) rfl (fun ls hl => ?_)
          refine lv_aload_n hx hb dL_acts_897 rfl (lv_at hl 10 rfl) ?_
          refine lv_iload hx hb dL_acts_898 (lv_at hl 7 rfl) ?_
          refine lv_iconst (v := 2) hx hb dL_acts_900 (by decide) ?_
          refine xpV (rest := []) ⟨hx, hb, hml, hown, hts⟩ (x_server l G cI cQ d o hE (nI k) 2) (cwV 2 hts gL_acts_X4_server rfl rfl rfl cd_X4_server ⟨Nat.le_of_ble_eq_true rfl, Nat.le_of_ble_eq_true rfl⟩) hK hP rfl hl.1 rfl (Nat.le_of_ble_eq_true rfl) dL_acts_901 ⟨Nat.le_of_ble_eq_true rfl, Nat.le_of_ble_eq_true rfl⟩ ?_
          refine lv_cvt (y := (nI (manyN (eC o) k))) (vs2 w.1 hk) ?_
          refine lv_istore (lv' := [(14, .int (nI (manyN (eC o) k))), (13, .int 1), (12, .int (aT 24 (kpl (eC o)) (nI ja))), (11, .int (kmo (eC o))), (10, .int (kbu (eC o))), (9, .int (nI jc)), (8, .int (nI jb)), (7, .int (nI ja)), (6, .int (nI k)), (5, .int (nI (knj (eC o)))), (4, .int (nI (knv (eC o)))), (0, .ref (adE d)), (1, .int (nI kd)), (2, .int v0), (3, .int w0)]) hx hb dL_acts_904 hl (by decide) rfl (fun ls hl => ?_)
          refine lv_aload_n hx hb dL_acts_906 rfl (lv_at hl 11 rfl) ?_
          refine lv_iload hx hb dL_acts_907 (lv_at hl 8 rfl) ?_
          refine xmV (rest := []) ⟨hx, hb, hml, hown, hts⟩ (x_close l G cI cQ d o hE (nI k) _) (cwV 1 hts gL_acts_X4_close rfl rfl rfl cd_X4_close ⟨Nat.le_of_ble_eq_true rfl, Nat.le_of_ble_eq_true rfl⟩) hK hP hD hS hA rfl hl.1 rfl (Nat.le_of_ble_eq_true rfl) dL_acts_909 ⟨Nat.le_of_ble_eq_true rfl, Nat.le_of_ble_eq_true rfl⟩ (fun o10 H locs ho10 hP hD hS => ?_)
          rcases wo_sp w hk with ⟨g, ew, ec⟩ | ⟨g1, g2, ew, g3, ec⟩ | ⟨g1, g2, ew, g3, ec, wc, cnv, cmo, cbu, cnk, cl0⟩
          · skip
            have hr_o10 : (fClose (eC o) (nI k)) = (-2, eC o) := by rw [hc_o]; exact ec
            have hq_o10 : qE o o10 := q_act hE hr_o10 (by decide) ho10
            have hE_o10 := hq_o10.1
            have hc_o10 : eC o10 = eC o := hq_o10.2.1.trans hc_o
            refine lv_cvt (y := -2) (congrArg Prod.fst hr_o10) ?_
            refine lv_istore (lv' := [(15, .int (-2)), (14, .int (nI (manyN (eC o) k))), (13, .int 1), (12, .int (aT 24 (kpl (eC o)) (nI ja))), (11, .int (kmo (eC o))), (10, .int (kbu (eC o))), (9, .int (nI jc)), (8, .int (nI jb)), (7, .int (nI ja)), (6, .int (nI k)), (5, .int (nI (knj (eC o)))), (4, .int (nI (knv (eC o)))), (0, .ref (adE d)), (1, .int (nI kd)), (2, .int v0), (3, .int w0)]) hx hb dL_acts_912 hl (by decide) rfl (fun ls hl => ?_)
            refine lv_iload hx hb dL_acts_914 (lv_at hl 0 rfl) ?_
            refine lv_bipush (v := (-2)) hx hb dL_acts_916 (by decide) ?_
            refine lv_icmp_eq (tgt := 943) hx hb dL_acts_918 (by decide) (fun _ => ?_) (fun c => False.elim (c rfl))
            refine lv_iconst (v := 1) hx hb dL_acts_943 (by decide) ?_
            refine lv_goto (tgt := 948) hx hb dL_acts_944 (by decide) ?_
            exact m_ret (ty := .boolean) o10 hx hb hr hlocks rfl ⟨rfl, ⟨hE_o10, (by rw [hc_o10]; exact hv0)⟩⟩ hP hD hS dL_acts_948
          · skip
            have hr_o10 : (fClose (eC o) (nI k)) = (-2, eC o) := by rw [hc_o]; exact ec
            have hq_o10 : qE o o10 := q_act hE hr_o10 (by decide) ho10
            have hE_o10 := hq_o10.1
            have hc_o10 : eC o10 = eC o := hq_o10.2.1.trans hc_o
            refine lv_cvt (y := -2) (congrArg Prod.fst hr_o10) ?_
            refine lv_istore (lv' := [(15, .int (-2)), (14, .int (nI (manyN (eC o) k))), (13, .int 1), (12, .int (aT 24 (kpl (eC o)) (nI ja))), (11, .int (kmo (eC o))), (10, .int (kbu (eC o))), (9, .int (nI jc)), (8, .int (nI jb)), (7, .int (nI ja)), (6, .int (nI k)), (5, .int (nI (knj (eC o)))), (4, .int (nI (knv (eC o)))), (0, .ref (adE d)), (1, .int (nI kd)), (2, .int v0), (3, .int w0)]) hx hb dL_acts_912 hl (by decide) rfl (fun ls hl => ?_)
            refine lv_iload hx hb dL_acts_914 (lv_at hl 0 rfl) ?_
            refine lv_bipush (v := (-2)) hx hb dL_acts_916 (by decide) ?_
            refine lv_icmp_eq (tgt := 943) hx hb dL_acts_918 (by decide) (fun _ => ?_) (fun c => False.elim (c rfl))
            refine lv_iconst (v := 1) hx hb dL_acts_943 (by decide) ?_
            refine lv_goto (tgt := 948) hx hb dL_acts_944 (by decide) ?_
            exact m_ret (ty := .boolean) o10 hx hb hr hlocks rfl ⟨rfl, ⟨hE_o10, (by rw [hc_o10]; exact hv0)⟩⟩ hP hD hS dL_acts_948
          · skip
            have ml := many_le (eC o) k
            have hr_o10 : (fClose (eC o) (nI k)) = (nI (manyN (eC o) k), (sClose (eC o) (nI k))) := by rw [hc_o]; exact ec
            have hE_o10 : EI o10 := ei_act hE (by rw [hr_o10]; exact wc) ho10
            have hc_o10 : eC o10 = (sClose (eC o) (nI k)) := by rw [ho10]; exact congrArg Prod.snd hr_o10
            have hh_o10 := hh_act (o := o) (by rw [hr_o10]; exact nI_pos (by omega)) ho10
            refine lv_cvt (y := nI (manyN (eC o) k)) (congrArg Prod.fst hr_o10) ?_
            refine lv_istore (lv' := [(15, .int (nI (manyN (eC o) k))), (14, .int (nI (manyN (eC o) k))), (13, .int 1), (12, .int (aT 24 (kpl (eC o)) (nI ja))), (11, .int (kmo (eC o))), (10, .int (kbu (eC o))), (9, .int (nI jc)), (8, .int (nI jb)), (7, .int (nI ja)), (6, .int (nI k)), (5, .int (nI (knj (eC o)))), (4, .int (nI (knv (eC o)))), (0, .ref (adE d)), (1, .int (nI kd)), (2, .int v0), (3, .int w0)]) hx hb dL_acts_912 hl (by decide) rfl (fun ls hl => ?_)
            refine lv_iload hx hb dL_acts_914 (lv_at hl 0 rfl) ?_
            refine lv_bipush (v := (-2)) hx hb dL_acts_916 (by decide) ?_
            refine lv_icmp_eq (tgt := 943) hx hb dL_acts_918 (by decide) (fun c => False.elim (ne2 (by omega) c)) (fun _ => ?_)
            refine lv_iload hx hb dL_acts_921 (lv_at hl 2 rfl) ?_
            refine lv_if_eq (tgt := 947) hx hb dL_acts_923 (by decide) (fun c => absurd c (by decide)) (fun _ => ?_)
            refine lv_iload hx hb dL_acts_926 (lv_at hl 0 rfl) ?_
            refine lv_iload hx hb dL_acts_928 (lv_at hl 1 rfl) ?_
            refine lv_icmp_ne (tgt := 947) hx hb dL_acts_930 (by decide) (fun c => False.elim (c rfl)) (fun _ => ?_)
            refine lv_aload_n hx hb dL_acts_933 rfl (lv_at hl 12 rfl) ?_
            refine lv_iload hx hb dL_acts_934 (lv_at hl 9 rfl) ?_
            refine lv_iconst (v := 0) hx hb dL_acts_936 (by decide) ?_
            refine xpV (rest := []) ⟨hx, hb, hml, hown, hts⟩ (x_server l G cI cQ d o10 hE_o10 (nI k) 0) (cwV 2 hts gL_acts_X4_server rfl rfl rfl cd_X4_server ⟨Nat.le_of_ble_eq_true rfl, Nat.le_of_ble_eq_true rfl⟩) hK hP rfl hl.1 rfl (Nat.le_of_ble_eq_true rfl) dL_acts_937 ⟨Nat.le_of_ble_eq_true rfl, Nat.le_of_ble_eq_true rfl⟩ ?_
            refine lv_cvt (y := 0) (by rw [hc_o10]; exact (vs0 wc.1 (by rw [cnv]; exact hk)).trans (congrArg nI (if_neg cnk))) ?_
            refine lv_if_ne (tgt := 947) hx hb dL_acts_940 (by decide) (fun c => absurd c (by decide)) (fun _ => ?_)
            refine lv_iconst (v := 1) hx hb dL_acts_943 (by decide) ?_
            refine lv_goto (tgt := 948) hx hb dL_acts_944 (by decide) ?_
            exact m_ret (ty := .boolean) o10 hx hb hr hlocks rfl ⟨rfl, ⟨hE_o10, (by rw [hc_o10]; exact (by rw [cnv]; exact hv0))⟩⟩ hP hD hS dL_acts_948
        · skip
          refine lv_cvt (y := 0) ((vs0 w.1 hk).trans (congrArg nI (if_neg ko))) ?_
          refine lv_iconst (v := 1) hx hb dL_acts_886 (by decide) ?_
          refine lv_icmp_ne (tgt := 894) hx hb dL_acts_887 (by decide) (fun _ => ?_) (fun c => absurd c (by decide))
          refine lv_iconst (v := 0) hx hb dL_acts_894 (by decide) ?_
          refine lv_istore (lv' := [(13, .int 0), (12, .int (aT 24 (kpl (eC o)) (nI ja))), (11, .int (kmo (eC o))), (10, .int (kbu (eC o))), (9, .int (nI jc)), (8, .int (nI jb)), (7, .int (nI ja)), (6, .int (nI k)), (5, .int (nI (knj (eC o)))), (4, .int (nI (knv (eC o)))), (0, .ref (adE d)), (1, .int (nI kd)), (2, .int v0), (3, .int w0)]) hx hb dL_acts_895 hl (by decide) rfl (fun ls hl => ?_)
          refine lv_aload_n hx hb dL_acts_897 rfl (lv_at hl 10 rfl) ?_
          refine lv_iload hx hb dL_acts_898 (lv_at hl 7 rfl) ?_
          refine lv_iconst (v := 2) hx hb dL_acts_900 (by decide) ?_
          refine xpV (rest := []) ⟨hx, hb, hml, hown, hts⟩ (x_server l G cI cQ d o hE (nI k) 2) (cwV 2 hts gL_acts_X4_server rfl rfl rfl cd_X4_server ⟨Nat.le_of_ble_eq_true rfl, Nat.le_of_ble_eq_true rfl⟩) hK hP rfl hl.1 rfl (Nat.le_of_ble_eq_true rfl) dL_acts_901 ⟨Nat.le_of_ble_eq_true rfl, Nat.le_of_ble_eq_true rfl⟩ ?_
          refine lv_cvt (y := (nI (manyN (eC o) k))) (vs2 w.1 hk) ?_
          refine lv_istore (lv' := [(14, .int (nI (manyN (eC o) k))), (13, .int 0), (12, .int (aT 24 (kpl (eC o)) (nI ja))), (11, .int (kmo (eC o))), (10, .int (kbu (eC o))), (9, .int (nI jc)), (8, .int (nI jb)), (7, .int (nI ja)), (6, .int (nI k)), (5, .int (nI (knj (eC o)))), (4, .int (nI (knv (eC o)))), (0, .ref (adE d)), (1, .int (nI kd)), (2, .int v0), (3, .int w0)]) hx hb dL_acts_904 hl (by decide) rfl (fun ls hl => ?_)
          refine lv_aload_n hx hb dL_acts_906 rfl (lv_at hl 11 rfl) ?_
          refine lv_iload hx hb dL_acts_907 (lv_at hl 8 rfl) ?_
          refine xmV (rest := []) ⟨hx, hb, hml, hown, hts⟩ (x_close l G cI cQ d o hE (nI k) _) (cwV 1 hts gL_acts_X4_close rfl rfl rfl cd_X4_close ⟨Nat.le_of_ble_eq_true rfl, Nat.le_of_ble_eq_true rfl⟩) hK hP hD hS hA rfl hl.1 rfl (Nat.le_of_ble_eq_true rfl) dL_acts_909 ⟨Nat.le_of_ble_eq_true rfl, Nat.le_of_ble_eq_true rfl⟩ (fun o11 H locs ho11 hP hD hS => ?_)
          rcases wo_sp w hk with ⟨g, ew, ec⟩ | ⟨g1, g2, ew, g3, ec⟩ | ⟨g1, g2, ew, g3, ec, wc, cnv, cmo, cbu, cnk, cl0⟩
          · skip
            have hr_o11 : (fClose (eC o) (nI k)) = (-2, eC o) := by rw [hc_o]; exact ec
            have hq_o11 : qE o o11 := q_act hE hr_o11 (by decide) ho11
            have hE_o11 := hq_o11.1
            have hc_o11 : eC o11 = eC o := hq_o11.2.1.trans hc_o
            refine lv_cvt (y := -2) (congrArg Prod.fst hr_o11) ?_
            refine lv_istore (lv' := [(15, .int (-2)), (14, .int (nI (manyN (eC o) k))), (13, .int 0), (12, .int (aT 24 (kpl (eC o)) (nI ja))), (11, .int (kmo (eC o))), (10, .int (kbu (eC o))), (9, .int (nI jc)), (8, .int (nI jb)), (7, .int (nI ja)), (6, .int (nI k)), (5, .int (nI (knj (eC o)))), (4, .int (nI (knv (eC o)))), (0, .ref (adE d)), (1, .int (nI kd)), (2, .int v0), (3, .int w0)]) hx hb dL_acts_912 hl (by decide) rfl (fun ls hl => ?_)
            refine lv_iload hx hb dL_acts_914 (lv_at hl 0 rfl) ?_
            refine lv_bipush (v := (-2)) hx hb dL_acts_916 (by decide) ?_
            refine lv_icmp_eq (tgt := 943) hx hb dL_acts_918 (by decide) (fun _ => ?_) (fun c => False.elim (c rfl))
            refine lv_iconst (v := 1) hx hb dL_acts_943 (by decide) ?_
            refine lv_goto (tgt := 948) hx hb dL_acts_944 (by decide) ?_
            exact m_ret (ty := .boolean) o11 hx hb hr hlocks rfl ⟨rfl, ⟨hE_o11, (by rw [hc_o11]; exact hv0)⟩⟩ hP hD hS dL_acts_948
          · skip
            exact absurd g1 ko
          · skip
            exact absurd g1 ko
      · refine lv_cvt (y := nI 15) (congrArg nI hq6) ?_
        refine lv_tableIn (off := 723) (tgt := 949) hx hb dL_acts_226 (by decide) (by decide) rfl (by decide) ?_
        refine lv_aload_n hx hb dL_acts_949 rfl (lv_at hl 9 rfl) ?_
        refine lv_iload hx hb dL_acts_950 (lv_at hl 6 rfl) ?_
        refine lv_iconst (v := 0) hx hb dL_acts_952 (by decide) ?_
        refine xpV (rest := []) ⟨hx, hb, hml, hown, hts⟩ (x_server l G cI cQ d o hE (nI k) 0) (cwV 2 hts gL_acts_X4_server rfl rfl rfl cd_X4_server ⟨Nat.le_of_ble_eq_true rfl, Nat.le_of_ble_eq_true rfl⟩) hK hP rfl hl.1 rfl (Nat.le_of_ble_eq_true rfl) dL_acts_953 ⟨Nat.le_of_ble_eq_true rfl, Nat.le_of_ble_eq_true rfl⟩ ?_
        by_cases ko : kop (eC o) k = 1
        · skip
          refine lv_cvt (y := 1) ((vs0 w.1 hk).trans (congrArg nI (if_pos ko))) ?_
          refine lv_iconst (v := 1) hx hb dL_acts_956 (by decide) ?_
          refine lv_icmp_ne (tgt := 964) hx hb dL_acts_957 (by decide) (fun c => absurd c (by decide)) (fun _ => ?_)
          refine lv_iconst (v := 1) hx hb dL_acts_960 (by decide) ?_
          refine lv_goto (tgt := 965) hx hb dL_acts_961 (by decide) ?_
          refine lv_istore (lv' := [(13, .int 1), (12, .int (aT 24 (kpl (eC o)) (nI ja))), (11, .int (kmo (eC o))), (10, .int (kbu (eC o))), (9, .int (nI jc)), (8, .int (nI jb)), (7, .int (nI ja)), (6, .int (nI k)), (5, .int (nI (knj (eC o)))), (4, .int (nI (knv (eC o)))), (0, .ref (adE d)), (1, .int (nI kd)), (2, .int v0), (3, .int w0)]) hx hb dL_acts_965 hl (by decide) rfl (fun ls hl => ?_)
          refine lv_aload_n hx hb dL_acts_967 rfl (lv_at hl 10 rfl) ?_
          refine lv_iload hx hb dL_acts_968 (lv_at hl 7 rfl) ?_
          refine xmV (rest := []) ⟨hx, hb, hml, hown, hts⟩ (x_open l G cI cQ d o hE (nI k) _) (cwV 1 hts gL_acts_X4_open rfl rfl rfl cd_X4_open ⟨Nat.le_of_ble_eq_true rfl, Nat.le_of_ble_eq_true rfl⟩) hK hP hD hS hA rfl hl.1 rfl (Nat.le_of_ble_eq_true rfl) dL_acts_970 ⟨Nat.le_of_ble_eq_true rfl, Nat.le_of_ble_eq_true rfl⟩ (fun o12 H locs ho12 hP hD hS => ?_)
          rcases opn_sp w hk with ⟨g, em⟩ | ⟨g, em, wm, g1⟩
          · skip
            have hr_o12 : (fOpen (eC o) (nI k)) = (-2, eC o) := by rw [hc_o]; exact em
            have hq_o12 : qE o o12 := q_act hE hr_o12 (by decide) ho12
            have hE_o12 := hq_o12.1
            have hc_o12 : eC o12 = eC o := hq_o12.2.1.trans hc_o
            refine lv_cvt (y := -2) (congrArg Prod.fst hr_o12) ?_
            refine lv_iload hx hb dL_acts_973 (lv_at hl 0 rfl) ?_
            refine lv_if_eq (tgt := 983) hx hb dL_acts_975 (by decide) (fun c => absurd c (by decide)) (fun _ => ?_)
            refine lv_bipush (v := (-2)) hx hb dL_acts_978 (by decide) ?_
            refine lv_goto (tgt := 988) hx hb dL_acts_980 (by decide) ?_
            refine lv_icmp_ne (tgt := 1006) hx hb dL_acts_988 (by decide) (fun c => False.elim (c rfl)) (fun _ => ?_)
            refine lv_aload_n hx hb dL_acts_991 rfl (lv_at hl 10 rfl) ?_
            refine lv_iload hx hb dL_acts_992 (lv_at hl 7 rfl) ?_
            refine lv_iconst (v := 0) hx hb dL_acts_994 (by decide) ?_
            refine xpV (rest := []) ⟨hx, hb, hml, hown, hts⟩ (x_server l G cI cQ d o12 hE_o12 (nI k) 0) (cwV 2 hts gL_acts_X4_server rfl rfl rfl cd_X4_server ⟨Nat.le_of_ble_eq_true rfl, Nat.le_of_ble_eq_true rfl⟩) hK hP rfl hl.1 rfl (Nat.le_of_ble_eq_true rfl) dL_acts_995 ⟨Nat.le_of_ble_eq_true rfl, Nat.le_of_ble_eq_true rfl⟩ ?_
            refine lv_cvt (y := 1) (by rw [hc_o12]; exact (vs0 w.1 hk).trans (congrArg nI (if_pos g))) ?_
            refine lv_iconst (v := 1) hx hb dL_acts_998 (by decide) ?_
            refine lv_icmp_ne (tgt := 1006) hx hb dL_acts_999 (by decide) (fun c => absurd c (by decide)) (fun _ => ?_)
            refine lv_iconst (v := 1) hx hb dL_acts_1002 (by decide) ?_
            refine lv_goto (tgt := 1007) hx hb dL_acts_1003 (by decide) ?_
            exact m_ret (ty := .boolean) o12 hx hb hr hlocks rfl ⟨rfl, ⟨hE_o12, (by rw [hc_o12]; exact hv0)⟩⟩ hP hD hS dL_acts_1007
          · skip
            exact absurd ko g
        · skip
          refine lv_cvt (y := 0) ((vs0 w.1 hk).trans (congrArg nI (if_neg ko))) ?_
          refine lv_iconst (v := 1) hx hb dL_acts_956 (by decide) ?_
          refine lv_icmp_ne (tgt := 964) hx hb dL_acts_957 (by decide) (fun _ => ?_) (fun c => absurd c (by decide))
          refine lv_iconst (v := 0) hx hb dL_acts_964 (by decide) ?_
          refine lv_istore (lv' := [(13, .int 0), (12, .int (aT 24 (kpl (eC o)) (nI ja))), (11, .int (kmo (eC o))), (10, .int (kbu (eC o))), (9, .int (nI jc)), (8, .int (nI jb)), (7, .int (nI ja)), (6, .int (nI k)), (5, .int (nI (knj (eC o)))), (4, .int (nI (knv (eC o)))), (0, .ref (adE d)), (1, .int (nI kd)), (2, .int v0), (3, .int w0)]) hx hb dL_acts_965 hl (by decide) rfl (fun ls hl => ?_)
          refine lv_aload_n hx hb dL_acts_967 rfl (lv_at hl 10 rfl) ?_
          refine lv_iload hx hb dL_acts_968 (lv_at hl 7 rfl) ?_
          refine xmV (rest := []) ⟨hx, hb, hml, hown, hts⟩ (x_open l G cI cQ d o hE (nI k) _) (cwV 1 hts gL_acts_X4_open rfl rfl rfl cd_X4_open ⟨Nat.le_of_ble_eq_true rfl, Nat.le_of_ble_eq_true rfl⟩) hK hP hD hS hA rfl hl.1 rfl (Nat.le_of_ble_eq_true rfl) dL_acts_970 ⟨Nat.le_of_ble_eq_true rfl, Nat.le_of_ble_eq_true rfl⟩ (fun o13 H locs ho13 hP hD hS => ?_)
          rcases opn_sp w hk with ⟨g, em⟩ | ⟨g, em, wm, g1⟩
          · skip
            exact absurd g ko
          · skip
            have hr_o13 : (fOpen (eC o) (nI k)) = (nI (opN (sOpn (eC o) k)), (sOpn (eC o) k)) := by rw [hc_o]; exact em
            have hE_o13 : EI o13 := ei_act hE (by rw [hr_o13]; exact wm) ho13
            have hc_o13 : eC o13 = (sOpn (eC o) k) := by rw [ho13]; exact congrArg Prod.snd hr_o13
            have hh_o13 := hh_act (o := o) (by rw [hr_o13]; exact nI_pos (by have := op_le (sOpn (eC o) k); have := ci_nv wm.1; omega)) ho13
            refine lv_cvt (y := nI (opN (sOpn (eC o) k))) (congrArg Prod.fst hr_o13) ?_
            refine lv_iload hx hb dL_acts_973 (lv_at hl 0 rfl) ?_
            refine lv_if_eq (tgt := 983) hx hb dL_acts_975 (by decide) (fun _ => ?_) (fun c => absurd c (by decide))
            refine lv_aload_n hx hb dL_acts_983 rfl (lv_at hl 10 rfl) ?_
            refine lv_iconst (v := 1) hx hb dL_acts_984 (by decide) ?_
            refine xpV (rest := [.int (nI (opN (sOpn (eC o) k)))]) ⟨hx, hb, hml, hown, hts⟩ (x_count l G cI cQ d o13 hE_o13 1) (cwV 1 hts gL_acts_X4_count rfl rfl rfl cd_X4_count ⟨Nat.le_of_ble_eq_true rfl, Nat.le_of_ble_eq_true rfl⟩) hK hP rfl hl.1 rfl (Nat.le_of_ble_eq_true rfl) dL_acts_985 ⟨Nat.le_of_ble_eq_true rfl, Nat.le_of_ble_eq_true rfl⟩ ?_
            refine lv_cvt (y := (nI (opN (sOpn (eC o) k)))) (by rw [hc_o13]; exact vc1 wm.1) ?_
            refine lv_icmp_ne (tgt := 1006) hx hb dL_acts_988 (by decide) (fun c => False.elim (c rfl)) (fun _ => ?_)
            refine lv_aload_n hx hb dL_acts_991 rfl (lv_at hl 10 rfl) ?_
            refine lv_iload hx hb dL_acts_992 (lv_at hl 7 rfl) ?_
            refine lv_iconst (v := 0) hx hb dL_acts_994 (by decide) ?_
            refine xpV (rest := []) ⟨hx, hb, hml, hown, hts⟩ (x_server l G cI cQ d o13 hE_o13 (nI k) 0) (cwV 2 hts gL_acts_X4_server rfl rfl rfl cd_X4_server ⟨Nat.le_of_ble_eq_true rfl, Nat.le_of_ble_eq_true rfl⟩) hK hP rfl hl.1 rfl (Nat.le_of_ble_eq_true rfl) dL_acts_995 ⟨Nat.le_of_ble_eq_true rfl, Nat.le_of_ble_eq_true rfl⟩ ?_
            refine lv_cvt (y := 1) (by rw [hc_o13]; exact (vs0 wm.1 hk).trans (congrArg nI (if_pos g1))) ?_
            refine lv_iconst (v := 1) hx hb dL_acts_998 (by decide) ?_
            refine lv_icmp_ne (tgt := 1006) hx hb dL_acts_999 (by decide) (fun c => absurd c (by decide)) (fun _ => ?_)
            refine lv_iconst (v := 1) hx hb dL_acts_1002 (by decide) ?_
            refine lv_goto (tgt := 1007) hx hb dL_acts_1003 (by decide) ?_
            exact m_ret (ty := .boolean) o13 hx hb hr hlocks rfl ⟨rfl, ⟨hE_o13, (by rw [hc_o13]; exact hv0)⟩⟩ hP hD hS dL_acts_1007
      · refine lv_cvt (y := nI 16) (congrArg nI hq6) ?_
        refine lv_tableIn (off := 782) (tgt := 1008) hx hb dL_acts_226 (by decide) (by decide) rfl (by decide) ?_
        refine lv_aload_n hx hb dL_acts_1008 rfl (lv_at hl 9 rfl) ?_
        refine xmV (rest := []) ⟨hx, hb, hml, hown, hts⟩ (x_addServer l G cI cQ d o hE  _) (cwV 0 hts gL_acts_X4_addServer rfl rfl rfl cd_X4_addServer ⟨Nat.le_of_ble_eq_true rfl, Nat.le_of_ble_eq_true rfl⟩) hK hP hD hS hA rfl hl.1 rfl (Nat.le_of_ble_eq_true rfl) dL_acts_1009 ⟨Nat.le_of_ble_eq_true rfl, Nat.le_of_ble_eq_true rfl⟩ (fun o14 H locs ho14 hP hD hS => ?_)
        rcases srv_sp w with ⟨h6, em⟩ | ⟨h6, em, wm, g1, g2⟩
        · skip
          have hr_o14 : (fNewServer (eC o)) = (-3, eC o) := by rw [hc_o]; exact em
          have hq_o14 : qE o o14 := q_act hE hr_o14 (by decide) ho14
          have hE_o14 := hq_o14.1
          have hc_o14 : eC o14 = eC o := hq_o14.2.1.trans hc_o
          refine lv_cvt (y := -3) (congrArg Prod.fst hr_o14) ?_
          refine lv_istore (lv' := [(13, .int (-3)), (12, .int (aT 24 (kpl (eC o)) (nI ja))), (11, .int (kmo (eC o))), (10, .int (kbu (eC o))), (9, .int (nI jc)), (8, .int (nI jb)), (7, .int (nI ja)), (6, .int (nI k)), (5, .int (nI (knj (eC o)))), (4, .int (nI (knv (eC o)))), (0, .ref (adE d)), (1, .int (nI kd)), (2, .int v0), (3, .int w0)]) hx hb dL_acts_1012 hl (by decide) rfl (fun ls hl => ?_)
          refine lv_iload hx hb dL_acts_1014 (lv_at hl 0 rfl) ?_
          refine lv_iload hx hb dL_acts_1016 (lv_at hl 9 rfl) ?_
          refine lv_bipush (v := 6) hx hb dL_acts_1018 (by decide) ?_
          refine lv_icmp_ne (tgt := 1028) hx hb dL_acts_1020 (by decide) (fun c => False.elim (c (congrArg nI h6))) (fun _ => ?_)
          refine lv_bipush (v := (-3)) hx hb dL_acts_1023 (by decide) ?_
          refine lv_goto (tgt := 1030) hx hb dL_acts_1025 (by decide) ?_
          refine lv_icmp_ne (tgt := 1063) hx hb dL_acts_1030 (by decide) (fun c => False.elim (c rfl)) (fun _ => ?_)
          refine lv_iload hx hb dL_acts_1033 (lv_at hl 0 rfl) ?_
          refine lv_if_lt (tgt := 1059) hx hb dL_acts_1035 (by decide) (fun _ => ?_) (fun c => False.elim (c (by decide)))
          refine lv_iconst (v := 1) hx hb dL_acts_1059 (by decide) ?_
          refine lv_goto (tgt := 1064) hx hb dL_acts_1060 (by decide) ?_
          exact m_ret (ty := .boolean) o14 hx hb hr hlocks rfl ⟨rfl, ⟨hE_o14, (by rw [hc_o14]; exact hv0)⟩⟩ hP hD hS dL_acts_1064
        · skip
          have hr_o14 : (fNewServer (eC o)) = (nI (knv (eC o)), (sSrv (eC o))) := by rw [hc_o]; exact em
          have hE_o14 : EI o14 := ei_act hE (by rw [hr_o14]; exact wm) ho14
          have hc_o14 : eC o14 = (sSrv (eC o)) := by rw [ho14]; exact congrArg Prod.snd hr_o14
          have hh_o14 := hh_act (o := o) (by rw [hr_o14]; exact nI_pos (by omega)) ho14
          refine lv_cvt (y := nI (knv (eC o))) (congrArg Prod.fst hr_o14) ?_
          refine lv_istore (lv' := [(13, .int (nI (knv (eC o)))), (12, .int (aT 24 (kpl (eC o)) (nI ja))), (11, .int (kmo (eC o))), (10, .int (kbu (eC o))), (9, .int (nI jc)), (8, .int (nI jb)), (7, .int (nI ja)), (6, .int (nI k)), (5, .int (nI (knj (eC o)))), (4, .int (nI (knv (eC o)))), (0, .ref (adE d)), (1, .int (nI kd)), (2, .int v0), (3, .int w0)]) hx hb dL_acts_1012 hl (by decide) rfl (fun ls hl => ?_)
          refine lv_iload hx hb dL_acts_1014 (lv_at hl 0 rfl) ?_
          refine lv_iload hx hb dL_acts_1016 (lv_at hl 9 rfl) ?_
          refine lv_bipush (v := 6) hx hb dL_acts_1018 (by decide) ?_
          refine lv_icmp_ne (tgt := 1028) hx hb dL_acts_1020 (by decide) (fun _ => ?_) (fun c => False.elim (absurd ((nI_eq (b := 6) (by omega) (by decide)).mp c) (by omega)))
          refine lv_iload hx hb dL_acts_1028 (lv_at hl 9 rfl) ?_
          refine lv_icmp_ne (tgt := 1063) hx hb dL_acts_1030 (by decide) (fun c => False.elim (c rfl)) (fun _ => ?_)
          refine lv_iload hx hb dL_acts_1033 (lv_at hl 0 rfl) ?_
          refine lv_if_lt (tgt := 1059) hx hb dL_acts_1035 (by decide) (fun c => False.elim (nI_pos (by omega) c)) (fun _ => ?_)
          refine lv_aload_n hx hb dL_acts_1038 rfl (lv_at hl 10 rfl) ?_
          refine lv_iload hx hb dL_acts_1039 (lv_at hl 9 rfl) ?_
          refine lv_iconst (v := 0) hx hb dL_acts_1041 (by decide) ?_
          refine xpV (rest := []) ⟨hx, hb, hml, hown, hts⟩ (x_server l G cI cQ d o14 hE_o14 (nI (knv (eC o))) 0) (cwV 2 hts gL_acts_X4_server rfl rfl rfl cd_X4_server ⟨Nat.le_of_ble_eq_true rfl, Nat.le_of_ble_eq_true rfl⟩) hK hP rfl hl.1 rfl (Nat.le_of_ble_eq_true rfl) dL_acts_1042 ⟨Nat.le_of_ble_eq_true rfl, Nat.le_of_ble_eq_true rfl⟩ ?_
          refine lv_cvt (y := 1) (by rw [hc_o14]; exact (vs0 wm.1 (Nat.lt_succ_self _)).trans (congrArg nI (if_pos g1))) ?_
          refine lv_iconst (v := 1) hx hb dL_acts_1045 (by decide) ?_
          refine lv_icmp_ne (tgt := 1063) hx hb dL_acts_1046 (by decide) (fun c => absurd c (by decide)) (fun _ => ?_)
          refine lv_aload_n hx hb dL_acts_1049 rfl (lv_at hl 10 rfl) ?_
          refine lv_iload hx hb dL_acts_1050 (lv_at hl 9 rfl) ?_
          refine lv_iconst (v := 1) hx hb dL_acts_1052 (by decide) ?_
          refine xpV (rest := []) ⟨hx, hb, hml, hown, hts⟩ (x_server l G cI cQ d o14 hE_o14 (nI (knv (eC o))) 1) (cwV 2 hts gL_acts_X4_server rfl rfl rfl cd_X4_server ⟨Nat.le_of_ble_eq_true rfl, Nat.le_of_ble_eq_true rfl⟩) hK hP rfl hl.1 rfl (Nat.le_of_ble_eq_true rfl) dL_acts_1053 ⟨Nat.le_of_ble_eq_true rfl, Nat.le_of_ble_eq_true rfl⟩ ?_
          refine lv_cvt (y := 0) (by rw [hc_o14]; exact (vs1 wm.1 (Nat.lt_succ_self _)).trans (congrArg nI g2)) ?_
          refine lv_if_ne (tgt := 1063) hx hb dL_acts_1056 (by decide) (fun c => absurd c (by decide)) (fun _ => ?_)
          refine lv_iconst (v := 1) hx hb dL_acts_1059 (by decide) ?_
          refine lv_goto (tgt := 1064) hx hb dL_acts_1060 (by decide) ?_
          exact m_ret (ty := .boolean) o14 hx hb hr hlocks rfl ⟨rfl, ⟨hE_o14, (by rw [hc_o14]; exact Nat.succ_pos _)⟩⟩ hP hD hS dL_acts_1064
      · refine lv_cvt (y := nI 17) (congrArg nI hq6) ?_
        refine lv_tableOut (tgt := 1065) hx hb dL_acts_226 (Or.inr (by decide)) (by decide) ?_
        have K1093 : ∀ (bv : Nat), bv ≤ 10000 → ∀ (ls : Array Slot), lv_has ls 16 [(12, .int (aT 24 (kpl (eC o)) (nI ja))), (11, .int (kmo (eC o))), (10, .int (kbu (eC o))), (9, .int (nI jc)), (8, .int (nI jb)), (7, .int (nI ja)), (6, .int (nI k)), (5, .int (nI (knj (eC o)))), (4, .int (nI (knv (eC o)))), (0, .ref (adE d)), (1, .int (nI kd)), (2, .int v0), (3, .int w0)] → W p l e ({ frames := 7, cells := 0, slots := 0, locals := 188 } : Room) s m ([.ref (adE d), .int (nI kd), .int v0, .int w0] : List Value).toArray below meth cd H locs 0 0 (MQ below (va_Qi (fun (r : Int32) (u : ES) => r = 1 ∧ (EI u ∧ 0 < knv (eC u))) (mB G (A) (XW cI cQ d)) (A)) ([.ref (adE d), .int (nI kd), .int v0, .int w0] : List Value).toArray s 0 0 A) (F0 m 1093 ls [.int (nI bv)]) := by
          intro bv hbv ls hl
          refine lv_istore (lv' := [(13, .int (nI bv)), (12, .int (aT 24 (kpl (eC o)) (nI ja))), (11, .int (kmo (eC o))), (10, .int (kbu (eC o))), (9, .int (nI jc)), (8, .int (nI jb)), (7, .int (nI ja)), (6, .int (nI k)), (5, .int (nI (knj (eC o)))), (4, .int (nI (knv (eC o)))), (0, .ref (adE d)), (1, .int (nI kd)), (2, .int v0), (3, .int w0)]) hx hb dL_acts_1093 hl (by decide) rfl (fun ls hl => ?_)
          have K1120 : ∀ (fv : Nat), 100 ≤ fv → fv ≤ 400 → ∀ (ls : Array Slot), lv_has ls 16 [(13, .int (nI bv)), (12, .int (aT 24 (kpl (eC o)) (nI ja))), (11, .int (kmo (eC o))), (10, .int (kbu (eC o))), (9, .int (nI jc)), (8, .int (nI jb)), (7, .int (nI ja)), (6, .int (nI k)), (5, .int (nI (knj (eC o)))), (4, .int (nI (knv (eC o)))), (0, .ref (adE d)), (1, .int (nI kd)), (2, .int v0), (3, .int w0)] → W p l e ({ frames := 7, cells := 0, slots := 0, locals := 188 } : Room) s m ([.ref (adE d), .int (nI kd), .int v0, .int w0] : List Value).toArray below meth cd H locs 0 0 (MQ below (va_Qi (fun (r : Int32) (u : ES) => r = 1 ∧ (EI u ∧ 0 < knv (eC u))) (mB G (A) (XW cI cQ d)) (A)) ([.ref (adE d), .int (nI kd), .int v0, .int w0] : List Value).toArray s 0 0 A) (F0 m 1120 ls [.int (nI fv)]) := by
            intro fv hf1 hf2 ls hl
            refine lv_istore (lv' := [(14, .int (nI fv)), (13, .int (nI bv)), (12, .int (aT 24 (kpl (eC o)) (nI ja))), (11, .int (kmo (eC o))), (10, .int (kbu (eC o))), (9, .int (nI jc)), (8, .int (nI jb)), (7, .int (nI ja)), (6, .int (nI k)), (5, .int (nI (knj (eC o)))), (4, .int (nI (knv (eC o)))), (0, .ref (adE d)), (1, .int (nI kd)), (2, .int v0), (3, .int w0)]) hx hb dL_acts_1120 hl (by decide) rfl (fun ls hl => ?_)
            refine lv_aload_n hx hb dL_acts_1122 rfl (lv_at hl 11 rfl) ?_
            refine lv_iload hx hb dL_acts_1123 (lv_at hl 1 rfl) ?_
            refine xmV (rest := []) ⟨hx, hb, hml, hown, hts⟩ (x_setBudget l G cI cQ d o hE (nI bv) _) (cwV 1 hts gL_acts_X4_setBudget rfl rfl rfl cd_X4_setBudget ⟨Nat.le_of_ble_eq_true rfl, Nat.le_of_ble_eq_true rfl⟩) hK hP hD hS hA rfl hl.1 rfl (Nat.le_of_ble_eq_true rfl) dL_acts_1125 ⟨Nat.le_of_ble_eq_true rfl, Nat.le_of_ble_eq_true rfl⟩ (fun o15 H locs ho15 hP hD hS => ?_)
            obtain ⟨em, wm⟩ := bud_sp w hbv
            have hr_o15 : (fBudget (eC o) (nI bv)) = (kbu (eC o), (ubu (eC o) (nI bv))) := by rw [hc_o]; exact em
            have hE_o15 : EI o15 := ei_act hE (by rw [hr_o15]; exact wm) ho15
            have hc_o15 : eC o15 = (ubu (eC o) (nI bv)) := by rw [ho15]; exact congrArg Prod.snd hr_o15
            have hh_o15 := hh_act (o := o) (by rw [hr_o15]; exact (by show ¬ kbu (eC o) < 0; rw [w.2.1]; exact nI_pos (by omega))) ho15
            refine lv_cvt (y := kbu (eC o)) (congrArg Prod.fst hr_o15) ?_
            refine lv_iload hx hb dL_acts_1128 (lv_at hl 4 rfl) ?_
            refine lv_icmp_ne (tgt := 1174) hx hb dL_acts_1130 (by decide) (fun c => False.elim (c rfl)) (fun _ => ?_)
            refine lv_aload_n hx hb dL_acts_1133 rfl (lv_at hl 11 rfl) ?_
            refine lv_bipush (v := 10) hx hb dL_acts_1134 (by decide) ?_
            refine xpV (rest := []) ⟨hx, hb, hml, hown, hts⟩ (x_count l G cI cQ d o15 hE_o15 10) (cwV 1 hts gL_acts_X4_count rfl rfl rfl cd_X4_count ⟨Nat.le_of_ble_eq_true rfl, Nat.le_of_ble_eq_true rfl⟩) hK hP rfl hl.1 rfl (Nat.le_of_ble_eq_true rfl) dL_acts_1136 ⟨Nat.le_of_ble_eq_true rfl, Nat.le_of_ble_eq_true rfl⟩ ?_
            refine lv_cvt (y := (nI bv)) (by rw [hc_o15]; rfl) ?_
            refine lv_iload hx hb dL_acts_1139 (lv_at hl 1 rfl) ?_
            refine lv_icmp_ne (tgt := 1174) hx hb dL_acts_1141 (by decide) (fun c => False.elim (c rfl)) (fun _ => ?_)
            refine lv_aload_n hx hb dL_acts_1144 rfl (lv_at hl 11 rfl) ?_
            refine lv_iload hx hb dL_acts_1145 (lv_at hl 0 rfl) ?_
            refine xmV (rest := []) ⟨hx, hb, hml, hown, hts⟩ (x_setFactor l G cI cQ d o15 hE_o15 (nI fv) _) (cwV 1 hts gL_acts_X4_setFactor rfl rfl rfl cd_X4_setFactor ⟨Nat.le_of_ble_eq_true rfl, Nat.le_of_ble_eq_true rfl⟩) hK hP hD hS hA rfl hl.1 rfl (Nat.le_of_ble_eq_true rfl) dL_acts_1147 ⟨Nat.le_of_ble_eq_true rfl, Nat.le_of_ble_eq_true rfl⟩ (fun o16 H locs ho16 hP hD hS => ?_)
            obtain ⟨em2, wm2⟩ := fac_sp wm hf1 hf2
            have hr_o16 : (fFactor (eC o15) (nI fv)) = (nI (tgN (ufa (ubu (eC o) (nI bv)) (nI fv))), (ufa (ubu (eC o) (nI bv)) (nI fv))) := by rw [hc_o15]; exact em2
            have hE_o16 : EI o16 := ei_act hE_o15 (by rw [hr_o16]; exact wm2) ho16
            have hc_o16 : eC o16 = (ufa (ubu (eC o) (nI bv)) (nI fv)) := by rw [ho16]; exact congrArg Prod.snd hr_o16
            have hh_o16 := hh_act (o := o15) (by rw [hr_o16]; exact nI_pos (by have := tg_le wm2.1; omega)) ho16
            refine lv_cvt (y := nI (tgN (ufa (ubu (eC o) (nI bv)) (nI fv)))) (congrArg Prod.fst hr_o16) ?_
            refine lv_aload_n hx hb dL_acts_1150 rfl (lv_at hl 11 rfl) ?_
            refine lv_bipush (v := 8) hx hb dL_acts_1151 (by decide) ?_
            refine xpV (rest := [.int (nI (tgN (ufa (ubu (eC o) (nI bv)) (nI fv))))]) ⟨hx, hb, hml, hown, hts⟩ (x_count l G cI cQ d o16 hE_o16 8) (cwV 1 hts gL_acts_X4_count rfl rfl rfl cd_X4_count ⟨Nat.le_of_ble_eq_true rfl, Nat.le_of_ble_eq_true rfl⟩) hK hP rfl hl.1 rfl (Nat.le_of_ble_eq_true rfl) dL_acts_1153 ⟨Nat.le_of_ble_eq_true rfl, Nat.le_of_ble_eq_true rfl⟩ ?_
            refine lv_cvt (y := (nI (tgN (ufa (ubu (eC o) (nI bv)) (nI fv))))) (by rw [hc_o16]; exact vc8 wm2.1) ?_
            refine lv_icmp_ne (tgt := 1174) hx hb dL_acts_1156 (by decide) (fun c => False.elim (c rfl)) (fun _ => ?_)
            refine lv_aload_n hx hb dL_acts_1159 rfl (lv_at hl 11 rfl) ?_
            refine lv_bipush (v := 11) hx hb dL_acts_1160 (by decide) ?_
            refine xpV (rest := []) ⟨hx, hb, hml, hown, hts⟩ (x_count l G cI cQ d o16 hE_o16 11) (cwV 1 hts gL_acts_X4_count rfl rfl rfl cd_X4_count ⟨Nat.le_of_ble_eq_true rfl, Nat.le_of_ble_eq_true rfl⟩) hK hP rfl hl.1 rfl (Nat.le_of_ble_eq_true rfl) dL_acts_1162 ⟨Nat.le_of_ble_eq_true rfl, Nat.le_of_ble_eq_true rfl⟩ ?_
            refine lv_cvt (y := (nI fv)) (by rw [hc_o16]; rfl) ?_
            refine lv_iload hx hb dL_acts_1165 (lv_at hl 0 rfl) ?_
            refine lv_icmp_ne (tgt := 1174) hx hb dL_acts_1167 (by decide) (fun c => False.elim (c rfl)) (fun _ => ?_)
            refine lv_iconst (v := 1) hx hb dL_acts_1170 (by decide) ?_
            refine lv_goto (tgt := 1175) hx hb dL_acts_1171 (by decide) ?_
            exact m_ret (ty := .boolean) o16 hx hb hr hlocks rfl ⟨rfl, ⟨hE_o16, (by rw [hc_o16]; exact hv0)⟩⟩ hP hD hS dL_acts_1175
          refine lv_iload_n hx hb dL_acts_1095 rfl (lv_at hl 13 rfl) ?_
          refine lv_iconst (v := 2) hx hb dL_acts_1096 (by decide) ?_
          refine xpS (rest := []) ⟨hx, hb, hml, hown, hts⟩ (c_L_low l G cI cQ d w0 2 (by decide) (by omega)) (cwS 2 hts gL_acts_L_low rfl rfl rfl cd_L_low ⟨Nat.le_of_ble_eq_true rfl, Nat.le_of_ble_eq_true rfl⟩) hK P_nil rfl hl.1 rfl (Nat.le_of_ble_eq_true rfl) dL_acts_1097 ⟨Nat.le_of_ble_eq_true rfl, Nat.le_of_ble_eq_true rfl⟩ (fun r_t2 hr_t2 => ?_)
          obtain ⟨t2, ht2, e_t2⟩ := hr_t2
          subst e_t2
          refine lv_if_ne (tgt := 1108) hx hb dL_acts_1100 (by decide) (fun c1100 => ?_) (fun c1100 => ?_)
          · skip
            refine lv_bipush (v := 100) hx hb dL_acts_1108 (by decide) ?_
            refine lv_iload_n hx hb dL_acts_1110 rfl (lv_at hl 13 rfl) ?_
            refine lv_iconst (v := 1) hx hb dL_acts_1111 (by decide) ?_
            refine lv_ishr hx hb dL_acts_1112 ?_
            refine lv_sipush (v := 301) hx hb dL_acts_1113 (by decide) ?_
            refine xpS (rest := [.int 100]) ⟨hx, hb, hml, hown, hts⟩ (c_L_low l G cI cQ d (w0 >>> (1 &&& 31)) 301 (by decide) (by omega)) (cwS 2 hts gL_acts_L_low rfl rfl rfl cd_L_low ⟨Nat.le_of_ble_eq_true rfl, Nat.le_of_ble_eq_true rfl⟩) hK P_nil rfl hl.1 rfl (Nat.le_of_ble_eq_true rfl) dL_acts_1116 ⟨Nat.le_of_ble_eq_true rfl, Nat.le_of_ble_eq_true rfl⟩ (fun r_tf hr_tf => ?_)
            obtain ⟨tf, htf, e_tf⟩ := hr_tf
            subst e_tf
            refine lv_iadd hx hb dL_acts_1119 ?_
            refine lv_cvt (y := (nI (100 + tf))) (nI_add 100 tf) ?_
            exact K1120 (100 + tf) (by omega) (by omega) ls hl
          · skip
            refine lv_bipush (v := 100) hx hb dL_acts_1103 (by decide) ?_
            refine lv_goto (tgt := 1120) hx hb dL_acts_1105 (by decide) ?_
            exact K1120 100 (by omega) (by omega) ls hl
        refine lv_iload_n hx hb dL_acts_1065 rfl (lv_at hl 11 rfl) ?_
        refine lv_iconst (v := 3) hx hb dL_acts_1066 (by decide) ?_
        refine xpS (rest := []) ⟨hx, hb, hml, hown, hts⟩ (c_L_low l G cI cQ d v0 3 (by decide) (by omega)) (cwS 2 hts gL_acts_L_low rfl rfl rfl cd_L_low ⟨Nat.le_of_ble_eq_true rfl, Nat.le_of_ble_eq_true rfl⟩) hK P_nil rfl hl.1 rfl (Nat.le_of_ble_eq_true rfl) dL_acts_1067 ⟨Nat.le_of_ble_eq_true rfl, Nat.le_of_ble_eq_true rfl⟩ (fun r_t3 hr_t3 => ?_)
        obtain ⟨t3, ht3, e_t3⟩ := hr_t3
        subst e_t3
        refine lv_if_ne (tgt := 1084) hx hb dL_acts_1070 (by decide) (fun c1070 => ?_) (fun c1070 => ?_)
        · skip
          refine lv_iload_n hx hb dL_acts_1084 rfl (lv_at hl 11 rfl) ?_
          refine lv_iconst (v := 2) hx hb dL_acts_1085 (by decide) ?_
          refine lv_ishr hx hb dL_acts_1086 ?_
          refine lv_sipush (v := 10001) hx hb dL_acts_1087 (by decide) ?_
          refine xpS (rest := []) ⟨hx, hb, hml, hown, hts⟩ (c_L_low l G cI cQ d (v0 >>> (2 &&& 31)) 10001 (by decide) (by omega)) (cwS 2 hts gL_acts_L_low rfl rfl rfl cd_L_low ⟨Nat.le_of_ble_eq_true rfl, Nat.le_of_ble_eq_true rfl⟩) hK P_nil rfl hl.1 rfl (Nat.le_of_ble_eq_true rfl) dL_acts_1090 ⟨Nat.le_of_ble_eq_true rfl, Nat.le_of_ble_eq_true rfl⟩ (fun r_tb hr_tb => ?_)
          obtain ⟨tb, htb, e_tb⟩ := hr_tb
          subst e_tb
          exact K1093 tb (by omega) ls hl
        · skip
          refine lv_iload_n hx hb dL_acts_1073 rfl (lv_at hl 11 rfl) ?_
          refine lv_iconst (v := 2) hx hb dL_acts_1074 (by decide) ?_
          refine lv_ishr hx hb dL_acts_1075 ?_
          refine lv_bipush (v := 80) hx hb dL_acts_1076 (by decide) ?_
          refine xpS (rest := []) ⟨hx, hb, hml, hown, hts⟩ (c_L_low l G cI cQ d (v0 >>> (2 &&& 31)) 80 (by decide) (by omega)) (cwS 2 hts gL_acts_L_low rfl rfl rfl cd_L_low ⟨Nat.le_of_ble_eq_true rfl, Nat.le_of_ble_eq_true rfl⟩) hK P_nil rfl hl.1 rfl (Nat.le_of_ble_eq_true rfl) dL_acts_1078 ⟨Nat.le_of_ble_eq_true rfl, Nat.le_of_ble_eq_true rfl⟩ (fun r_ta hr_ta => ?_)
          obtain ⟨ta, hta, e_ta⟩ := hr_ta
          subst e_ta
          refine lv_goto (tgt := 1093) hx hb dL_acts_1081 (by decide) ?_
          exact K1093 ta (by omega) ls hl
    · skip
      refine lv_iload_n hx hb dL_acts_33 rfl (lv_at hl 5 rfl) ?_
      refine lv_iconst (v := 3) hx hb dL_acts_34 (by decide) ?_
      refine xpS (rest := []) ⟨hx, hb, hml, hown, hts⟩ (c_L_low l G cI cQ d v0 3 (by decide) (by omega)) (cwS 2 hts gL_acts_L_low rfl rfl rfl cd_L_low ⟨Nat.le_of_ble_eq_true rfl, Nat.le_of_ble_eq_true rfl⟩) hK P_nil rfl hl.1 rfl (Nat.le_of_ble_eq_true rfl) dL_acts_35 ⟨Nat.le_of_ble_eq_true rfl, Nat.le_of_ble_eq_true rfl⟩ (fun r_s3 hr_s3 => ?_)
      obtain ⟨s3, hs3, e_s3⟩ := hr_s3
      subst e_s3
      refine lv_if_ne (tgt := 55) hx hb dL_acts_38 (by decide) (fun c38 => ?_) (fun c38 => ?_)
      · skip
        refine lv_iconst (v := 1) hx hb dL_acts_55 (by decide) ?_
        refine lv_iload_n hx hb dL_acts_56 rfl (lv_at hl 5 rfl) ?_
        refine lv_iconst (v := 2) hx hb dL_acts_57 (by decide) ?_
        refine lv_ishr hx hb dL_acts_58 ?_
        refine lv_bipush (v := 40) hx hb dL_acts_59 (by decide) ?_
        refine xpS (rest := [.int 1]) ⟨hx, hb, hml, hown, hts⟩ (c_L_low l G cI cQ d (v0 >>> (2 &&& 31)) 40 (by decide) (by omega)) (cwS 2 hts gL_acts_L_low rfl rfl rfl cd_L_low ⟨Nat.le_of_ble_eq_true rfl, Nat.le_of_ble_eq_true rfl⟩) hK P_nil rfl hl.1 rfl (Nat.le_of_ble_eq_true rfl) dL_acts_61 ⟨Nat.le_of_ble_eq_true rfl, Nat.le_of_ble_eq_true rfl⟩ (fun r_sb hr_sb => ?_)
        obtain ⟨sb, hsb, e_sb⟩ := hr_sb
        subst e_sb
        refine lv_iadd hx hb dL_acts_64 ?_
        refine lv_cvt (y := (nI (1 + sb))) (nI_add 1 sb) ?_
        exact K65 (1 + sb) (by omega) (by omega) ls hl
      · skip
        refine lv_iconst (v := 1) hx hb dL_acts_41 (by decide) ?_
        refine lv_iload_n hx hb dL_acts_42 rfl (lv_at hl 5 rfl) ?_
        refine lv_iconst (v := 2) hx hb dL_acts_43 (by decide) ?_
        refine lv_ishr hx hb dL_acts_44 ?_
        refine lv_sipush (v := 1000) hx hb dL_acts_45 (by decide) ?_
        refine xpS (rest := [.int 1]) ⟨hx, hb, hml, hown, hts⟩ (c_L_low l G cI cQ d (v0 >>> (2 &&& 31)) 1000 (by decide) (by omega)) (cwS 2 hts gL_acts_L_low rfl rfl rfl cd_L_low ⟨Nat.le_of_ble_eq_true rfl, Nat.le_of_ble_eq_true rfl⟩) hK P_nil rfl hl.1 rfl (Nat.le_of_ble_eq_true rfl) dL_acts_48 ⟨Nat.le_of_ble_eq_true rfl, Nat.le_of_ble_eq_true rfl⟩ (fun r_sa hr_sa => ?_)
        obtain ⟨sa, hsa, e_sa⟩ := hr_sa
        subst e_sa
        refine lv_iadd hx hb dL_acts_51 ?_
        refine lv_goto (tgt := 65) hx hb dL_acts_52 (by decide) ?_
        refine lv_cvt (y := (nI (1 + sa))) (nI_add 1 sa) ?_
        exact K65 (1 + sa) (by omega) (by omega) ls hl
theorem cd_L_acts : yL_acts.cls = RL ∧ yL_acts.cls ≠ "java/lang/invoke/MethodHandle" ∧ yL_acts.cls ≠ "java/lang/invoke/VarHandle" ∧ (parseMethodDescriptor yL_acts.desc).map (fun d => d.parameters.length) = some 4 := by decide +kernel
