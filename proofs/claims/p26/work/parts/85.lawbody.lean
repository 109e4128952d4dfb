set_option maxHeartbeats 20000000 in
set_option maxRecDepth 100000 in
theorem law_body {l : Launch} {p : Program} {e : Env} {s : State} {m : MethodId} {below : List Frame} {meth : Method} {cd : Code} {bA L : Nat} {xs : Nat → Int32} {G : va_G} {cI cQ : ClassId} {d : AD} (hL : L ≤ 260) (C0 : lw_At p s m meth cd bA L xs) (hK : SF G cI cQ s) (H : Heap) (locs : List Loc) (hP : va_P G vwCl (XW cI cQ d oo0) H) (hD : va_D (lwA s) (XW cI cQ d oo0)) (hS : va_S (lwA s) s.heap H locs) (ls : Array Slot) (hl : lv_has ls 9 [(1, .ref (adE d)), (0, .ref bA)]) : W p l e room_1 s m #[Value.ref bA] below meth cd H locs 63 1098 (lw_Z below #[Value.ref bA] s) (F0 m 8 ls []) := by
  obtain ⟨hx, hb, hr, hml, hown, hts, hX, hbl, hlocks, hgv⟩ := id C0
  have hA : ∀ k : Nat, s.heap.size ≤ k → lwA s k := fun _ h => h
  have hbA : ¬ lwA s bA := Nat.not_le.mpr hbl
  refine lv_aload_n hx hb dL_law_8 rfl (lv_at hl 0 rfl) ?_
  refine xmV (rest := []) ⟨hx, hb, hml, hown, hts⟩ (x_undo l G cI cQ d oo0 ei_0  _) (cwV 0 hts (goodUp gL_law_X4_undo) rfl rfl rfl cd_X4_undo ⟨Nat.le_of_ble_eq_true rfl, Nat.le_of_ble_eq_true rfl⟩) hK hP hD hS hA rfl hl.1 rfl (Nat.le_of_ble_eq_true rfl) dL_law_9 ⟨Nat.le_of_ble_eq_true rfl, Nat.le_of_ble_eq_true rfl⟩ (fun o1 H locs ho1 hP hD hS => ?_)
  have un_ := un_0 ei_0 rfl ho1
  have hE_o1 := un_.2.1
  have hn_o1 : knv (eC o1) = 0 := by rw [un_.2.2]
  refine lv_cvt (y := (-2)) (un_.1) ?_
  refine lv_bipush (v := (-2)) hx hb dL_law_12 (by decide) ?_
  refine lv_icmp_ne (tgt := 35) hx hb dL_law_14 (by decide) (fun c => absurd c (by decide)) (fun _ => ?_)
  refine lv_aload_n hx hb dL_law_17 rfl (lv_at hl 0 rfl) ?_
  refine xmS (rest := []) ⟨hx, hb, hml, hown, hts⟩ (c_L_refused l G cI cQ d o1 hE_o1 _) (cwS 1 hts (goodUp gL_law_L_refused) rfl rfl rfl cd_L_refused ⟨Nat.le_of_ble_eq_true rfl, Nat.le_of_ble_eq_true rfl⟩) hK hP hD hS hA rfl hl.1 rfl (Nat.le_of_ble_eq_true rfl) dL_law_18 ⟨Nat.le_of_ble_eq_true rfl, Nat.le_of_ble_eq_true rfl⟩ (fun o2 H locs hp_o2 hP hD hS => ?_)
  have hE_o2 := hp_o2.1
  have hc_o2 : eC o2 = eC o1 := hp_o2.2.1
  have hn_o2 : knv (eC o2) = 0 := by rw [hc_o2]; exact hn_o1
  refine lv_if_eq (tgt := 35) hx hb dL_law_21 (by decide) (fun c => absurd c (by decide)) (fun _ => ?_)
  refine lv_aload_n hx hb dL_law_24 rfl (lv_at hl 0 rfl) ?_
  refine xmS (rest := []) ⟨hx, hb, hml, hown, hts⟩ (c_L_fits l G cI cQ d o2 hE_o2 _) (cwS 1 hts (goodUp gL_law_L_fits) rfl rfl rfl cd_L_fits ⟨Nat.le_of_ble_eq_true rfl, Nat.le_of_ble_eq_true rfl⟩) hK hP hD hS hA rfl hl.1 rfl (Nat.le_of_ble_eq_true rfl) dL_law_25 ⟨Nat.le_of_ble_eq_true rfl, Nat.le_of_ble_eq_true rfl⟩ (fun o3 H locs hp_o3 hP hD hS => ?_)
  have hE_o3 := hp_o3.1
  have hc_o3 : eC o3 = eC o2 := hp_o3.2
  have hn_o3 : knv (eC o3) = 0 := by rw [hc_o3]; exact hn_o2
  refine lv_if_eq (tgt := 35) hx hb dL_law_28 (by decide) (fun c => absurd c (by decide)) (fun _ => ?_)
  refine lv_iconst (v := 1) hx hb dL_law_31 (by decide) ?_
  refine lv_goto (tgt := 36) hx hb dL_law_32 (by decide) ?_
  refine lv_istore_n (lv' := [(2, .int 1), (1, .ref (adE d)), (0, .ref bA)]) hx hb dL_law_36 rfl hl (by decide) rfl (fun ls hl => ?_)
  refine lv_iconst (v := 2) hx hb dL_law_37 (by decide) ?_
  refine lv_aload_n hx hb dL_law_38 rfl (lv_at hl 2 rfl) ?_
  refine lv_bipush (v := 90) hx hb dL_law_39 (by decide) ?_
  refine xcS (rest := [.int 2]) ⟨hx, hb, hml, hown, hts⟩ (c_L_cell l G cI cQ bA L xs (by omega) 90 (by omega)) (cwS 2 hts (goodUp gL_law_L_cell) rfl rfl rfl cd_L_cell ⟨Nat.le_of_ble_eq_true rfl, Nat.le_of_ble_eq_true rfl⟩) hK hX hbl hbA hS rfl hl.1 rfl (Nat.le_of_ble_eq_true rfl) dL_law_41 ⟨Nat.le_of_ble_eq_true rfl, Nat.le_of_ble_eq_true rfl⟩ (fun r90 _ => ?_)
  refine lv_iconst (v := 4) hx hb dL_law_44 (by decide) ?_
  refine xpS (rest := [.int 2]) ⟨hx, hb, hml, hown, hts⟩ (c_L_low l G cI cQ d r90 4 (by decide) (by omega)) (cwS 2 hts (goodUp gL_law_L_low) rfl rfl rfl cd_L_low ⟨Nat.le_of_ble_eq_true rfl, Nat.le_of_ble_eq_true rfl⟩) hK P_nil rfl hl.1 rfl (Nat.le_of_ble_eq_true rfl) dL_law_45 ⟨Nat.le_of_ble_eq_true rfl, Nat.le_of_ble_eq_true rfl⟩ (fun r_sv hr_sv => ?_)
  obtain ⟨sv, hsv, e_sv⟩ := hr_sv
  subst e_sv
  refine lv_iadd hx hb dL_law_48 ?_
  refine lv_cvt (y := (nI (2 + sv))) (nI_add 2 sv) ?_
  refine lv_istore_n (lv' := [(3, .int (nI (2 + sv))), (2, .int 1), (1, .ref (adE d)), (0, .ref bA)]) hx hb dL_law_49 rfl hl (by decide) rfl (fun ls hl => ?_)
  refine lv_iconst (v := 0) hx hb dL_law_50 (by decide) ?_
  refine lv_istore (lv' := [(4, .int 0), (3, .int (nI (2 + sv))), (2, .int 1), (1, .ref (adE d)), (0, .ref bA)]) hx hb dL_law_51 hl (by decide) rfl (fun ls hl => ?_)
  have K4 : ∀ (n5 i : Nat), i + n5 = 2 + sv → ∀ (o_i : ES) (hE_o_i : EI o_i) (H : Heap) (locs : List Loc),knv (eC o_i) = i → va_P G vwCl (XW cI cQ d o_i) H → va_D (lwA s) (XW cI cQ d o_i) → va_S (lwA s) s.heap H locs → ∀ (ls : Array Slot), lv_has ls 9 [(4, .int (nI i)), (3, .int (nI (2 + sv))), (2, .int 1), (1, .ref (adE d)), (0, .ref bA)] → W p l e room_1 s m #[Value.ref bA] below meth cd H locs 65 1110 (lw_Z below #[Value.ref bA] s) (F0 m 53 ls []) := by
    intro n5
    induction n5 with
    | zero =>
      intro i hi_i o_i hE_o_i H locs hn_o_i hP hD hS ls hl
      have e_i : i = 2 + sv := by omega
      subst e_i
      refine lv_iload hx hb dL_law_53 (lv_at hl 0 rfl) ?_
      refine lv_iload_n hx hb dL_law_55 rfl (lv_at hl 1 rfl) ?_
      refine lv_icmp_ge (tgt := 84) hx hb dL_law_56 (by decide) (fun _ => ?_) (fun c => False.elim (c (Int32.le_refl _)))
      refine lv_iconst (v := 0) hx hb dL_law_84 (by decide) ?_
      refine lv_istore (lv' := [(4, .int 0), (3, .int (nI (2 + sv))), (2, .int 1), (1, .ref (adE d)), (0, .ref bA)]) hx hb dL_law_85 hl (by decide) rfl (fun ls hl => ?_)
      have K6 : ∀ (n7 t : Nat), t + n7 = 44 → ∀ (o_t : ES) (hE_o_t : EI o_t) (H : Heap) (locs : List Loc),0 < knv (eC o_t) → va_P G vwCl (XW cI cQ d o_t) H → va_D (lwA s) (XW cI cQ d o_t) → va_S (lwA s) s.heap H locs → ∀ (ls : Array Slot), lv_has ls 9 [(4, .int (nI t)), (3, .int (nI (2 + sv))), (2, .int 1), (1, .ref (adE d)), (0, .ref bA)] → W p l e room_1 s m #[Value.ref bA] below meth cd H locs (65 + 2 * t) (1110 + 12 * t) (lw_Z below #[Value.ref bA] s) (F0 m 87 ls []) := by
        intro n7
        induction n7 with
        | zero =>
          intro t hi_t o_t hE_o_t H locs hv_o_t hP hD hS ls hl
          have e_t : t = 44 := by omega
          subst e_t
          refine lv_iload hx hb dL_law_87 (lv_at hl 0 rfl) ?_
          refine lv_bipush (v := 44) hx hb dL_law_89 (by decide) ?_
          refine lv_cvt (y := (nI 44)) (rfl) ?_
          refine lv_icmp_ge (tgt := 319) hx hb dL_law_91 (by decide) (fun _ => ?_) (fun c => False.elim (c (Int32.le_refl _)))
          refine lv_iload_n hx hb dL_law_319 rfl (lv_at hl 2 rfl) ?_
          refine lv_if_eq (tgt := 334) hx hb dL_law_320 (by decide) (fun c => absurd c (by decide)) (fun _ => ?_)
          refine lv_aload_n hx hb dL_law_323 rfl (lv_at hl 3 rfl) ?_
          refine xmS (rest := []) ⟨hx, hb, hml, hown, hts⟩ (c_L_refused l G cI cQ d o_t hE_o_t _) (cwS 1 hts (goodUp gL_law_L_refused) rfl rfl rfl cd_L_refused ⟨Nat.le_of_ble_eq_true rfl, Nat.le_of_ble_eq_true rfl⟩) hK hP hD hS hA rfl hl.1 rfl (Nat.le_of_ble_eq_true rfl) dL_law_324 ⟨(show 65 + 2 * 44 ≤ 600000 by omega), (show 1110 + 12 * 44 ≤ 7302250 by omega)⟩ (fun o8 H locs hp_o8 hP hD hS => ?_)
          have hE_o8 := hp_o8.1
          have hc_o8 : eC o8 = eC o_t := hp_o8.2.1
          have hv_o8 : 0 < knv (eC o8) := by rw [hc_o8]; exact hv_o_t
          refine lv_if_eq (tgt := 334) hx hb dL_law_327 (by decide) (fun c => absurd c (by decide)) (fun _ => ?_)
          refine lv_iconst (v := 1) hx hb dL_law_330 (by decide) ?_
          refine lv_goto (tgt := 335) hx hb dL_law_331 (by decide) ?_
          refine va_forget (fun q hq => hS.2.2 q hq) ?_
          refine W.widen (k := 600000) (n := 7302250) (Nat.le_of_ble_eq_true rfl) (Nat.le_of_ble_eq_true rfl) ?_
          exact lw_ret hx hb hr hlocks dL_law_335
        | succ n7 ih_t =>
          intro t hi_t o_t hE_o_t H locs hv_o_t hP hD hS ls hl
          have lt_t : t < 44 := by omega
          refine lv_iload hx hb dL_law_87 (lv_at hl 0 rfl) ?_
          refine lv_bipush (v := 44) hx hb dL_law_89 (by decide) ?_
          refine lv_cvt (y := (nI 44)) (rfl) ?_
          refine lv_icmp_ge (tgt := 319) hx hb dL_law_91 (by decide) (fun c => False.elim (nI_ge lt_t (by omega) c)) (fun _ => ?_)
          refine lv_iload_n hx hb dL_law_94 rfl (lv_at hl 2 rfl) ?_
          refine lv_if_eq (tgt := 319) hx hb dL_law_95 (by decide) (fun c => absurd c (by decide)) (fun _ => ?_)
          refine lv_aload_n hx hb dL_law_98 rfl (lv_at hl 4 rfl) ?_
          refine lv_iconst (v := 2) hx hb dL_law_99 (by decide) ?_
          refine lv_iload hx hb dL_law_100 (lv_at hl 0 rfl) ?_
          refine lv_imul hx hb dL_law_102 ?_
          refine lv_cvt (y := (nI (2 * t))) (pk_mul 2 t) ?_
          refine xcS (rest := []) ⟨hx, hb, hml, hown, hts⟩ (c_L_cell l G cI cQ bA L xs (by omega) (2 * t) (by omega)) (cwS 2 hts (goodUp gL_law_L_cell) rfl rfl rfl cd_L_cell ⟨Nat.le_of_ble_eq_true rfl, Nat.le_of_ble_eq_true rfl⟩) hK hX hbl hbA hS rfl hl.1 rfl (Nat.le_of_ble_eq_true rfl) dL_law_103 ⟨(show 65 + 2 * t ≤ 600000 by omega), (show 1110 + 12 * t ≤ 7302250 by omega)⟩ (fun rv _ => ?_)
          refine lv_istore (lv' := [(5, .int rv), (4, .int (nI t)), (3, .int (nI (2 + sv))), (2, .int 1), (1, .ref (adE d)), (0, .ref bA)]) hx hb dL_law_106 hl (by decide) rfl (fun ls hl => ?_)
          refine lv_aload_n hx hb dL_law_108 rfl (lv_at hl 5 rfl) ?_
          refine lv_iconst (v := 2) hx hb dL_law_109 (by decide) ?_
          refine lv_iload hx hb dL_law_110 (lv_at hl 1 rfl) ?_
          refine lv_imul hx hb dL_law_112 ?_
          refine lv_cvt (y := (nI (2 * t))) (pk_mul 2 t) ?_
          refine lv_iconst (v := 1) hx hb dL_law_113 (by decide) ?_
          refine lv_iadd hx hb dL_law_114 ?_
          refine lv_cvt (y := (nI (2 * t + 1))) (nI_1 _) ?_
          refine xcS (rest := []) ⟨hx, hb, hml, hown, hts⟩ (c_L_cell l G cI cQ bA L xs (by omega) (2 * t + 1) (by omega)) (cwS 2 hts (goodUp gL_law_L_cell) rfl rfl rfl cd_L_cell ⟨Nat.le_of_ble_eq_true rfl, Nat.le_of_ble_eq_true rfl⟩) hK hX hbl hbA hS rfl hl.1 rfl (Nat.le_of_ble_eq_true rfl) dL_law_115 ⟨(show 65 + 2 * t ≤ 600000 by omega), (show 1110 + 12 * t ≤ 7302250 by omega)⟩ (fun rw _ => ?_)
          refine lv_istore (lv' := [(6, .int rw), (5, .int rv), (4, .int (nI t)), (3, .int (nI (2 + sv))), (2, .int 1), (1, .ref (adE d)), (0, .ref bA)]) hx hb dL_law_118 hl (by decide) rfl (fun ls hl => ?_)
          have K141 : ∀ (kd : Nat), kd < 18 → ∀ (ls : Array Slot), lv_has ls 9 [(6, .int rw), (5, .int rv), (4, .int (nI t)), (3, .int (nI (2 + sv))), (2, .int 1), (1, .ref (adE d)), (0, .ref bA)] → W p l e room_1 s m #[Value.ref bA] below meth cd H locs (65 + 2 * t) (1110 + 12 * t) (lw_Z below #[Value.ref bA] s) (F0 m 141 ls [.int (nI kd), .ref (adE d)]) := by
            intro kd hkd ls hl
            refine lv_iload hx hb dL_law_141 (lv_at hl 1 rfl) ?_
            refine lv_bipush (v := 7) hx hb dL_law_143 (by decide) ?_
            refine lv_ishr hx hb dL_law_145 ?_
            refine lv_iload hx hb dL_law_146 (lv_at hl 0 rfl) ?_
            refine xmS (rest := []) ⟨hx, hb, hml, hown, hts⟩ (c_L_acts l G cI cQ d o_t hE_o_t hv_o_t kd hkd (rv >>> (7 &&& 31)) rw _) (cwS 4 hts (goodUp gL_law_L_acts) rfl rfl rfl cd_L_acts ⟨Nat.le_of_ble_eq_true rfl, Nat.le_of_ble_eq_true rfl⟩) hK hP hD hS hA rfl hl.1 rfl (Nat.le_of_ble_eq_true rfl) dL_law_148 ⟨(show 65 + 2 * t ≤ 600000 by omega), (show 1110 + 12 * t ≤ 7302250 by omega)⟩ (fun o9 H locs hp_o9 hP hD hS => ?_)
            have hE_o9 := hp_o9.1
            have hv_o9 := hp_o9.2
            refine lv_if_eq (tgt := 223) hx hb dL_law_151 (by decide) (fun c => absurd c (by decide)) (fun _ => ?_)
            refine lv_aload_n hx hb dL_law_154 rfl (lv_at hl 5 rfl) ?_
            refine xmS (rest := []) ⟨hx, hb, hml, hown, hts⟩ (c_L_fits l G cI cQ d o9 hE_o9 _) (cwS 1 hts (goodUp gL_law_L_fits) rfl rfl rfl cd_L_fits ⟨Nat.le_of_ble_eq_true rfl, Nat.le_of_ble_eq_true rfl⟩) hK hP hD hS hA rfl hl.1 rfl (Nat.le_of_ble_eq_true rfl) dL_law_155 ⟨(show 65 + 2 * t + 2 ≤ 600000 by omega), (show 1110 + 12 * t + 12 ≤ 7302250 by omega)⟩ (fun o10 H locs hp_o10 hP hD hS => ?_)
            have hE_o10 := hp_o10.1
            have hc_o10 : eC o10 = eC o9 := hp_o10.2
            have hv_o10 : 0 < knv (eC o10) := by rw [hc_o10]; exact hv_o9
            refine lv_if_eq (tgt := 223) hx hb dL_law_158 (by decide) (fun c => absurd c (by decide)) (fun _ => ?_)
            refine lv_iload hx hb dL_law_161 (lv_at hl 2 rfl) ?_
            refine lv_bipush (v := 9) hx hb dL_law_163 (by decide) ?_
            refine lv_irem hx hb dL_law_165 (by decide) ?_
            refine lv_bipush (v := 7) hx hb dL_law_166 (by decide) ?_
            refine lv_icmp_ne (tgt := 178) hx hb dL_law_168 (by decide) (fun c168 => ?_) (fun c168 => ?_)
            · skip
              refine lv_aload_n hx hb dL_law_178 rfl (lv_at hl 5 rfl) ?_
              refine xmS (rest := []) ⟨hx, hb, hml, hown, hts⟩ (c_L_comesSo l G cI cQ d o10 hE_o10 _) (cwS 1 hts (goodUp gL_law_L_comesSo) rfl rfl rfl cd_L_comesSo ⟨Nat.le_of_ble_eq_true rfl, Nat.le_of_ble_eq_true rfl⟩) hK hP hD hS hA rfl hl.1 rfl (Nat.le_of_ble_eq_true rfl) dL_law_179 ⟨(show 65 + 2 * t + 2 ≤ 600000 by omega), (show 1110 + 12 * t + 12 ≤ 7302250 by omega)⟩ (fun o11 H locs hp_o11 hP hD hS => ?_)
              have hE_o11 := hp_o11.1
              have hc_o11 : eC o11 = eC o10 := hp_o11.2
              have hv_o11 : 0 < knv (eC o11) := by rw [hc_o11]; exact hv_o10
              refine lv_if_eq (tgt := 223) hx hb dL_law_182 (by decide) (fun c => absurd c (by decide)) (fun _ => ?_)
              refine lv_iload hx hb dL_law_185 (lv_at hl 2 rfl) ?_
              refine lv_iconst (v := 3) hx hb dL_law_187 (by decide) ?_
              refine lv_irem hx hb dL_law_188 (by decide) ?_
              refine lv_iconst (v := 1) hx hb dL_law_189 (by decide) ?_
              refine lv_icmp_ne (tgt := 200) hx hb dL_law_190 (by decide) (fun c190 => ?_) (fun c190 => ?_)
              · skip
                refine lv_aload_n hx hb dL_law_200 rfl (lv_at hl 5 rfl) ?_
                refine lv_iload hx hb dL_law_201 (lv_at hl 0 rfl) ?_
                refine lv_iconst (v := 5) hx hb dL_law_203 (by decide) ?_
                refine lv_ishr hx hb dL_law_204 ?_
                refine lv_aload_n hx hb dL_law_205 rfl (lv_at hl 5 rfl) ?_
                refine lv_iconst (v := 0) hx hb dL_law_206 (by decide) ?_
                refine xpV (rest := [.int (rw >>> (5 &&& 31)), .ref (adE d)]) ⟨hx, hb, hml, hown, hts⟩ (x_count l G cI cQ d o11 hE_o11 0) (cwV 1 hts (goodUp gL_law_X4_count) rfl rfl rfl cd_X4_count ⟨Nat.le_of_ble_eq_true rfl, Nat.le_of_ble_eq_true rfl⟩) hK hP rfl hl.1 rfl (Nat.le_of_ble_eq_true rfl) dL_law_207 ⟨(show 65 + 2 * t + 2 ≤ 600000 by omega), (show 1110 + 12 * t + 12 ≤ 7302250 by omega)⟩ ?_
                refine lv_cvt (y := (nI (knv (eC o11)))) (rfl) ?_
                refine xpS (rest := [.ref (adE d)]) ⟨hx, hb, hml, hown, hts⟩ (c_L_low l G cI cQ d (rw >>> (5 &&& 31)) (knv (eC o11)) hv_o11 (by have := ci_nv hE_o11.1.1; omega)) (cwS 2 hts (goodUp gL_law_L_low) rfl rfl rfl cd_L_low ⟨Nat.le_of_ble_eq_true rfl, Nat.le_of_ble_eq_true rfl⟩) hK P_nil rfl hl.1 rfl (Nat.le_of_ble_eq_true rfl) dL_law_210 ⟨(show 65 + 2 * t + 2 ≤ 600000 by omega), (show 1110 + 12 * t + 12 ≤ 7302250 by omega)⟩ (fun r_kc hr_kc => ?_)
                obtain ⟨kc, hkc, e_kc⟩ := hr_kc
                subst e_kc
                refine xmS (rest := []) ⟨hx, hb, hml, hown, hts⟩ (c_L_isClosed l G cI cQ d o11 hE_o11 kc hkc _) (cwS 2 hts (goodUp gL_law_L_isClosed) rfl rfl rfl cd_L_isClosed ⟨Nat.le_of_ble_eq_true rfl, Nat.le_of_ble_eq_true rfl⟩) hK hP hD hS hA rfl hl.1 rfl (Nat.le_of_ble_eq_true rfl) dL_law_213 ⟨(show 65 + 2 * t + 2 ≤ 600000 by omega), (show 1110 + 12 * t + 12 ≤ 7302250 by omega)⟩ (fun o12 H locs hp_o12 hP hD hS => ?_)
                have hE_o12 := hp_o12.1
                have hc_o12 : eC o12 = eC o11 := hp_o12.2
                have hv_o12 : 0 < knv (eC o12) := by rw [hc_o12]; exact hv_o11
                refine lv_if_eq (tgt := 223) hx hb dL_law_216 (by decide) (fun c => absurd c (by decide)) (fun _ => ?_)
                refine lv_iconst (v := 1) hx hb dL_law_219 (by decide) ?_
                refine lv_goto (tgt := 224) hx hb dL_law_220 (by decide) ?_
                refine lv_istore_n (lv' := [(2, .int 1), (6, .int rw), (5, .int rv), (4, .int (nI t)), (3, .int (nI (2 + sv))), (1, .ref (adE d)), (0, .ref bA)]) hx hb dL_law_224 rfl hl (by decide) rfl (fun ls hl => ?_)
                refine lv_iload_n hx hb dL_law_225 rfl (lv_at hl 0 rfl) ?_
                refine lv_if_eq (tgt := 313) hx hb dL_law_226 (by decide) (fun c => absurd c (by decide)) (fun _ => ?_)
                refine lv_iload hx hb dL_law_229 (lv_at hl 3 rfl) ?_
                refine lv_iconst (v := 5) hx hb dL_law_231 (by decide) ?_
                refine lv_irem hx hb dL_law_232 (by decide) ?_
                refine lv_iconst (v := 4) hx hb dL_law_233 (by decide) ?_
                refine lv_icmp_ne (tgt := 313) hx hb dL_law_234 (by decide) (fun c234 => ?_) (fun c234 => ?_)
                · skip
                  refine lv_iinc (v := (nI (t + 1))) (lv' := [(4, .int (nI (t + 1))), (2, .int 1), (6, .int rw), (5, .int rv), (3, .int (nI (2 + sv))), (1, .ref (adE d)), (0, .ref bA)]) hx hb dL_law_313 hl (k := 3) rfl (nI_1 t) (by decide) rfl (fun ls hl => ?_)
                  refine lv_goto (tgt := 87) hx hb dL_law_316 (by decide) ?_
                  refine W.widen (k := 65 + 2 * (t + 1)) (n := 1110 + 12 * (t + 1)) (by omega) (by omega) ?_
                  exact ih_t (t + 1) (by omega) o12 hE_o12 H locs hv_o12 hP hD hS ls (lv_sub hl [0, 4, 1, 5, 6] rfl)
                · skip
                  refine lv_aload_n hx hb dL_law_237 rfl (lv_at hl 5 rfl) ?_
                  refine xlS (rest := []) ⟨hx, hb, hml, hown, hts⟩ (c_L_sum l G cI cQ d o12 hE_o12) (cwS 1 hts (goodUp gL_law_L_sum) rfl rfl rfl cd_L_sum ⟨Nat.le_of_ble_eq_true rfl, Nat.le_of_ble_eq_true rfl⟩) hK hP rfl hl.1 rfl (Nat.le_of_ble_eq_true rfl) dL_law_238 ⟨(show 65 + 2 * t + 2 ≤ 600000 by omega), (show 1110 + 12 * t + 12 ≤ 7302250 by omega)⟩ ?_
                  refine lv_lstore (lv' := [(7, .long (sumF (eC o12))), (2, .int 1), (6, .int rw), (5, .int rv), (4, .int (nI t)), (3, .int (nI (2 + sv))), (1, .ref (adE d)), (0, .ref bA)]) hx hb dL_law_241 hl (by decide) rfl (fun ls hl => ?_)
                  refine lv_aload_n hx hb dL_law_243 rfl (lv_at hl 6 rfl) ?_
                  refine lv_iload hx hb dL_law_244 (lv_at hl 3 rfl) ?_
                  refine lv_sipush (v := 10001) hx hb dL_law_246 (by decide) ?_
                  refine xpS (rest := [.ref (adE d)]) ⟨hx, hb, hml, hown, hts⟩ (c_L_low l G cI cQ d rv 10001 (by decide) (by omega)) (cwS 2 hts (goodUp gL_law_L_low) rfl rfl rfl cd_L_low ⟨Nat.le_of_ble_eq_true rfl, Nat.le_of_ble_eq_true rfl⟩) hK P_nil rfl hl.1 rfl (Nat.le_of_ble_eq_true rfl) dL_law_249 ⟨(show 65 + 2 * t + 2 ≤ 600000 by omega), (show 1110 + 12 * t + 12 ≤ 7302250 by omega)⟩ (fun r_bx hr_bx => ?_)
                  obtain ⟨bx, hbx, e_bx⟩ := hr_bx
                  subst e_bx
                  refine xmV (rest := []) ⟨hx, hb, hml, hown, hts⟩ (x_setBudget l G cI cQ d o12 hE_o12 (nI bx) _) (cwV 1 hts (goodUp gL_law_X4_setBudget) rfl rfl rfl cd_X4_setBudget ⟨Nat.le_of_ble_eq_true rfl, Nat.le_of_ble_eq_true rfl⟩) hK hP hD hS hA rfl hl.1 rfl (Nat.le_of_ble_eq_true rfl) dL_law_252 ⟨(show 65 + 2 * t + 2 ≤ 600000 by omega), (show 1110 + 12 * t + 12 ≤ 7302250 by omega)⟩ (fun o13 H locs ho13 hP hD hS => ?_)
                  obtain ⟨em1, wm1⟩ := bud_sp hE_o12.1 (show bx ≤ 10000 by omega)
                  have nn1 : ¬ kbu (eC o12) < 0 := by have b := hE_o12.1.2; rw [b.1]; exact nI_pos (by have := b.2; omega)
                  have hE_o13 : EI o13 := ei_act hE_o12 (by rw [em1]; exact wm1) ho13
                  have k1 := k_act (o := o12) (by rw [em1]; exact nn1) ho13
                  refine lv_cvt (y := (kbu (eC o12))) (congrArg Prod.fst em1) ?_
                  refine lv_if_lt (tgt := 311) hx hb dL_law_255 (by decide) (fun c => False.elim (nn1 c)) (fun _ => ?_)
                  refine lv_aload_n hx hb dL_law_258 rfl (lv_at hl 6 rfl) ?_
                  refine lv_bipush (v := 100) hx hb dL_law_259 (by decide) ?_
                  refine xmV (rest := []) ⟨hx, hb, hml, hown, hts⟩ (x_setFactor l G cI cQ d o13 hE_o13 100 _) (cwV 1 hts (goodUp gL_law_X4_setFactor) rfl rfl rfl cd_X4_setFactor ⟨Nat.le_of_ble_eq_true rfl, Nat.le_of_ble_eq_true rfl⟩) hK hP hD hS hA rfl hl.1 rfl (Nat.le_of_ble_eq_true rfl) dL_law_261 ⟨(show 65 + 2 * t + 2 ≤ 600000 by omega), (show 1110 + 12 * t + 12 ≤ 7302250 by omega)⟩ (fun o14 H locs ho14 hP hD hS => ?_)
                  have sp2 := fac_sp hE_o13.1 (f := 100) (by decide) (by decide)
                  have em2 : fFactor (eC o13) 100 = (nI (tgN (ufa (eC o13) (nI 100))), ufa (eC o13) (nI 100)) := sp2.1
                  have nn2 : ¬ nI (tgN (ufa (eC o13) (nI 100))) < 0 := nI_pos (by have := tg_le sp2.2.1; omega)
                  have hE_o14 : EI o14 := ei_act hE_o13 (by rw [em2]; exact sp2.2) ho14
                  have k2 := k_act (o := o13) (by rw [em2]; exact nn2) ho14
                  refine lv_cvt (y := (nI (tgN (ufa (eC o13) (nI 100))))) (congrArg Prod.fst em2) ?_
                  refine lv_if_lt (tgt := 311) hx hb dL_law_264 (by decide) (fun c => False.elim (nn2 c)) (fun _ => ?_)
                  refine lv_aload_n hx hb dL_law_267 rfl (lv_at hl 6 rfl) ?_
                  refine lv_bipush (v := 30) hx hb dL_law_268 (by decide) ?_
                  refine xmV (rest := []) ⟨hx, hb, hml, hown, hts⟩ (x_even l G cI cQ d o14 hE_o14 30 _) (cwV 1 hts (goodUp gL_law_X4_even) rfl rfl rfl cd_X4_even ⟨Nat.le_of_ble_eq_true rfl, Nat.le_of_ble_eq_true rfl⟩) hK hP hD hS hA rfl hl.1 rfl (Nat.le_of_ble_eq_true rfl) dL_law_270 ⟨(show 65 + 2 * t + 2 ≤ 600000 by omega), (show 1110 + 12 * t + 12 ≤ 7302250 by omega)⟩ (fun o15 H locs ho15 hP hD hS => ?_)
                  have ev3 := evn_sp hE_o14.1 (eX o14) (p := 30) (by decide) (by decide)
                  have em3 : (fWalk (eC o14) (eX o14) 30).1 = nI (min 30 (pS (eC o14))) := ev3.1
                  have nn3 : ¬ nI (min 30 (pS (eC o14))) < 0 := nI_pos (by omega)
                  have hE_o15 : EI o15 := ei_even hE_o14 ev3.2.1 ho15
                  have k3 := k_even (o := o14) (by rw [em3]; exact nn3) ho15
                  refine lv_cvt (y := (nI (min 30 (pS (eC o14))))) (em3) ?_
                  refine lv_if_lt (tgt := 311) hx hb dL_law_273 (by decide) (fun c => False.elim (nn3 c)) (fun _ => ?_)
                  refine lv_aload_n hx hb dL_law_276 rfl (lv_at hl 6 rfl) ?_
                  refine xmV (rest := []) ⟨hx, hb, hml, hown, hts⟩ (x_undo l G cI cQ d o15 hE_o15  _) (cwV 0 hts (goodUp gL_law_X4_undo) rfl rfl rfl cd_X4_undo ⟨Nat.le_of_ble_eq_true rfl, Nat.le_of_ble_eq_true rfl⟩) hK hP hD hS hA rfl hl.1 rfl (Nat.le_of_ble_eq_true rfl) dL_law_277 ⟨(show 65 + 2 * t + 2 ≤ 600000 by omega), (show 1110 + 12 * t + 12 ≤ 7302250 by omega)⟩ (fun o16 H locs ho16 hP hD hS => ?_)
                  have un4 := (un_all (o6 := eUndo _) hE_o12 hE_o13.1 hE_o14.1 k1 k2 k3 ho16 rfl rfl).1
                  have hE_o16 := un4.2
                  refine lv_if_lt (tgt := 311) hx hb dL_law_280 (by decide) (fun c => False.elim (un4.1 c)) (fun _ => ?_)
                  refine lv_aload_n hx hb dL_law_283 rfl (lv_at hl 6 rfl) ?_
                  refine xmV (rest := []) ⟨hx, hb, hml, hown, hts⟩ (x_undo l G cI cQ d o16 hE_o16  _) (cwV 0 hts (goodUp gL_law_X4_undo) rfl rfl rfl cd_X4_undo ⟨Nat.le_of_ble_eq_true rfl, Nat.le_of_ble_eq_true rfl⟩) hK hP hD hS hA rfl hl.1 rfl (Nat.le_of_ble_eq_true rfl) dL_law_284 ⟨(show 65 + 2 * t + 2 ≤ 600000 by omega), (show 1110 + 12 * t + 12 ≤ 7302250 by omega)⟩ (fun o17 H locs ho17 hP hD hS => ?_)
                  have un5 := (un_all (o6 := eUndo _) hE_o12 hE_o13.1 hE_o14.1 k1 k2 k3 ho16 ho17 rfl).2.1
                  have hE_o17 := un5.2
                  refine lv_if_lt (tgt := 311) hx hb dL_law_287 (by decide) (fun c => False.elim (un5.1 c)) (fun _ => ?_)
                  refine lv_aload_n hx hb dL_law_290 rfl (lv_at hl 6 rfl) ?_
                  refine xmV (rest := []) ⟨hx, hb, hml, hown, hts⟩ (x_undo l G cI cQ d o17 hE_o17  _) (cwV 0 hts (goodUp gL_law_X4_undo) rfl rfl rfl cd_X4_undo ⟨Nat.le_of_ble_eq_true rfl, Nat.le_of_ble_eq_true rfl⟩) hK hP hD hS hA rfl hl.1 rfl (Nat.le_of_ble_eq_true rfl) dL_law_291 ⟨(show 65 + 2 * t + 2 ≤ 600000 by omega), (show 1110 + 12 * t + 12 ≤ 7302250 by omega)⟩ (fun o18 H locs ho18 hP hD hS => ?_)
                  have un6 := (un_all (o6 := o18) hE_o12 hE_o13.1 hE_o14.1 k1 k2 k3 ho16 ho17 ho18).2.2
                  have hE_o18 := un6.2.1
                  have hv_o18 : 0 < knv (eC o18) := by rw [un6.2.2]; exact hv_o12
                  refine lv_if_lt (tgt := 311) hx hb dL_law_294 (by decide) (fun c => False.elim (un6.1 c)) (fun _ => ?_)
                  refine lv_aload_n hx hb dL_law_297 rfl (lv_at hl 6 rfl) ?_
                  refine xlS (rest := []) ⟨hx, hb, hml, hown, hts⟩ (c_L_sum l G cI cQ d o18 hE_o18) (cwS 1 hts (goodUp gL_law_L_sum) rfl rfl rfl cd_L_sum ⟨Nat.le_of_ble_eq_true rfl, Nat.le_of_ble_eq_true rfl⟩) hK hP rfl hl.1 rfl (Nat.le_of_ble_eq_true rfl) dL_law_298 ⟨(show 65 + 2 * t + 2 ≤ 600000 by omega), (show 1110 + 12 * t + 12 ≤ 7302250 by omega)⟩ ?_
                  refine lv_lload hx hb dL_law_301 (lv_at hl 0 rfl) ?_
                  refine W.lcmp hx hb dL_law_303 ?_
                  refine lv_cvt (y := 0) (by rw [un6.2.2]; exact lcmp_eq _) ?_
                  refine lv_if_ne (tgt := 311) hx hb dL_law_304 (by decide) (fun c => False.elim (c rfl)) (fun _ => ?_)
                  refine lv_iconst (v := 1) hx hb dL_law_307 (by decide) ?_
                  refine lv_goto (tgt := 312) hx hb dL_law_308 (by decide) ?_
                  refine lv_istore_n (lv' := [(2, .int 1), (7, .long (sumF (eC o12))), (6, .int rw), (5, .int rv), (4, .int (nI t)), (3, .int (nI (2 + sv))), (1, .ref (adE d)), (0, .ref bA)]) hx hb dL_law_312 rfl hl (by decide) rfl (fun ls hl => ?_)
                  refine lv_iinc (v := (nI (t + 1))) (lv' := [(4, .int (nI (t + 1))), (2, .int 1), (7, .long (sumF (eC o12))), (6, .int rw), (5, .int rv), (3, .int (nI (2 + sv))), (1, .ref (adE d)), (0, .ref bA)]) hx hb dL_law_313 hl (k := 4) rfl (nI_1 t) (by decide) rfl (fun ls hl => ?_)
                  refine lv_goto (tgt := 87) hx hb dL_law_316 (by decide) ?_
                  refine W.widen (k := 65 + 2 * (t + 1)) (n := 1110 + 12 * (t + 1)) (by omega) (by omega) ?_
                  exact ih_t (t + 1) (by omega) o18 hE_o18 H locs hv_o18 hP hD hS ls (lv_sub hl [0, 5, 1, 6, 7] rfl)
              · skip
                refine lv_aload_n hx hb dL_law_193 rfl (lv_at hl 5 rfl) ?_
                refine xmS (rest := []) ⟨hx, hb, hml, hown, hts⟩ (c_L_areFewest l G cI cQ d o11 hE_o11 _) (cwS 1 hts (goodUp gL_law_L_areFewest) rfl rfl rfl cd_L_areFewest ⟨Nat.le_of_ble_eq_true rfl, Nat.le_of_ble_eq_true rfl⟩) hK hP hD hS hA rfl hl.1 rfl (Nat.le_of_ble_eq_true rfl) dL_law_194 ⟨(show 65 + 2 * t + 2 ≤ 600000 by omega), (show 1110 + 12 * t + 12 ≤ 7302250 by omega)⟩ (fun o19 H locs hp_o19 hP hD hS => ?_)
                have hE_o19 := hp_o19.1
                have hc_o19 : eC o19 = eC o11 := hp_o19.2
                have hv_o19 : 0 < knv (eC o19) := by rw [hc_o19]; exact hv_o11
                refine lv_if_eq (tgt := 223) hx hb dL_law_197 (by decide) (fun c => absurd c (by decide)) (fun _ => ?_)
                refine lv_aload_n hx hb dL_law_200 rfl (lv_at hl 5 rfl) ?_
                refine lv_iload hx hb dL_law_201 (lv_at hl 0 rfl) ?_
                refine lv_iconst (v := 5) hx hb dL_law_203 (by decide) ?_
                refine lv_ishr hx hb dL_law_204 ?_
                refine lv_aload_n hx hb dL_law_205 rfl (lv_at hl 5 rfl) ?_
                refine lv_iconst (v := 0) hx hb dL_law_206 (by decide) ?_
                refine xpV (rest := [.int (rw >>> (5 &&& 31)), .ref (adE d)]) ⟨hx, hb, hml, hown, hts⟩ (x_count l G cI cQ d o19 hE_o19 0) (cwV 1 hts (goodUp gL_law_X4_count) rfl rfl rfl cd_X4_count ⟨Nat.le_of_ble_eq_true rfl, Nat.le_of_ble_eq_true rfl⟩) hK hP rfl hl.1 rfl (Nat.le_of_ble_eq_true rfl) dL_law_207 ⟨(show 65 + 2 * t + 2 ≤ 600000 by omega), (show 1110 + 12 * t + 12 ≤ 7302250 by omega)⟩ ?_
                refine lv_cvt (y := (nI (knv (eC o19)))) (rfl) ?_
                refine xpS (rest := [.ref (adE d)]) ⟨hx, hb, hml, hown, hts⟩ (c_L_low l G cI cQ d (rw >>> (5 &&& 31)) (knv (eC o19)) hv_o19 (by have := ci_nv hE_o19.1.1; omega)) (cwS 2 hts (goodUp gL_law_L_low) rfl rfl rfl cd_L_low ⟨Nat.le_of_ble_eq_true rfl, Nat.le_of_ble_eq_true rfl⟩) hK P_nil rfl hl.1 rfl (Nat.le_of_ble_eq_true rfl) dL_law_210 ⟨(show 65 + 2 * t + 2 ≤ 600000 by omega), (show 1110 + 12 * t + 12 ≤ 7302250 by omega)⟩ (fun r_kc hr_kc => ?_)
                obtain ⟨kc, hkc, e_kc⟩ := hr_kc
                subst e_kc
                refine xmS (rest := []) ⟨hx, hb, hml, hown, hts⟩ (c_L_isClosed l G cI cQ d o19 hE_o19 kc hkc _) (cwS 2 hts (goodUp gL_law_L_isClosed) rfl rfl rfl cd_L_isClosed ⟨Nat.le_of_ble_eq_true rfl, Nat.le_of_ble_eq_true rfl⟩) hK hP hD hS hA rfl hl.1 rfl (Nat.le_of_ble_eq_true rfl) dL_law_213 ⟨(show 65 + 2 * t + 2 ≤ 600000 by omega), (show 1110 + 12 * t + 12 ≤ 7302250 by omega)⟩ (fun o20 H locs hp_o20 hP hD hS => ?_)
                have hE_o20 := hp_o20.1
                have hc_o20 : eC o20 = eC o19 := hp_o20.2
                have hv_o20 : 0 < knv (eC o20) := by rw [hc_o20]; exact hv_o19
                refine lv_if_eq (tgt := 223) hx hb dL_law_216 (by decide) (fun c => absurd c (by decide)) (fun _ => ?_)
                refine lv_iconst (v := 1) hx hb dL_law_219 (by decide) ?_
                refine lv_goto (tgt := 224) hx hb dL_law_220 (by decide) ?_
                refine lv_istore_n (lv' := [(2, .int 1), (6, .int rw), (5, .int rv), (4, .int (nI t)), (3, .int (nI (2 + sv))), (1, .ref (adE d)), (0, .ref bA)]) hx hb dL_law_224 rfl hl (by decide) rfl (fun ls hl => ?_)
                refine lv_iload_n hx hb dL_law_225 rfl (lv_at hl 0 rfl) ?_
                refine lv_if_eq (tgt := 313) hx hb dL_law_226 (by decide) (fun c => absurd c (by decide)) (fun _ => ?_)
                refine lv_iload hx hb dL_law_229 (lv_at hl 3 rfl) ?_
                refine lv_iconst (v := 5) hx hb dL_law_231 (by decide) ?_
                refine lv_irem hx hb dL_law_232 (by decide) ?_
                refine lv_iconst (v := 4) hx hb dL_law_233 (by decide) ?_
                refine lv_icmp_ne (tgt := 313) hx hb dL_law_234 (by decide) (fun c234 => ?_) (fun c234 => ?_)
                · skip
                  refine lv_iinc (v := (nI (t + 1))) (lv' := [(4, .int (nI (t + 1))), (2, .int 1), (6, .int rw), (5, .int rv), (3, .int (nI (2 + sv))), (1, .ref (adE d)), (0, .ref bA)]) hx hb dL_law_313 hl (k := 3) rfl (nI_1 t) (by decide) rfl (fun ls hl => ?_)
                  refine lv_goto (tgt := 87) hx hb dL_law_316 (by decide) ?_
                  refine W.widen (k := 65 + 2 * (t + 1)) (n := 1110 + 12 * (t + 1)) (by omega) (by omega) ?_
                  exact ih_t (t + 1) (by omega) o20 hE_o20 H locs hv_o20 hP hD hS ls (lv_sub hl [0, 4, 1, 5, 6] rfl)
                · skip
                  refine lv_aload_n hx hb dL_law_237 rfl (lv_at hl 5 rfl) ?_
                  refine xlS (rest := []) ⟨hx, hb, hml, hown, hts⟩ (c_L_sum l G cI cQ d o20 hE_o20) (cwS 1 hts (goodUp gL_law_L_sum) rfl rfl rfl cd_L_sum ⟨Nat.le_of_ble_eq_true rfl, Nat.le_of_ble_eq_true rfl⟩) hK hP rfl hl.1 rfl (Nat.le_of_ble_eq_true rfl) dL_law_238 ⟨(show 65 + 2 * t + 2 ≤ 600000 by omega), (show 1110 + 12 * t + 12 ≤ 7302250 by omega)⟩ ?_
                  refine lv_lstore (lv' := [(7, .long (sumF (eC o20))), (2, .int 1), (6, .int rw), (5, .int rv), (4, .int (nI t)), (3, .int (nI (2 + sv))), (1, .ref (adE d)), (0, .ref bA)]) hx hb dL_law_241 hl (by decide) rfl (fun ls hl => ?_)
                  refine lv_aload_n hx hb dL_law_243 rfl (lv_at hl 6 rfl) ?_
                  refine lv_iload hx hb dL_law_244 (lv_at hl 3 rfl) ?_
                  refine lv_sipush (v := 10001) hx hb dL_law_246 (by decide) ?_
                  refine xpS (rest := [.ref (adE d)]) ⟨hx, hb, hml, hown, hts⟩ (c_L_low l G cI cQ d rv 10001 (by decide) (by omega)) (cwS 2 hts (goodUp gL_law_L_low) rfl rfl rfl cd_L_low ⟨Nat.le_of_ble_eq_true rfl, Nat.le_of_ble_eq_true rfl⟩) hK P_nil rfl hl.1 rfl (Nat.le_of_ble_eq_true rfl) dL_law_249 ⟨(show 65 + 2 * t + 2 ≤ 600000 by omega), (show 1110 + 12 * t + 12 ≤ 7302250 by omega)⟩ (fun r_bx hr_bx => ?_)
                  obtain ⟨bx, hbx, e_bx⟩ := hr_bx
                  subst e_bx
                  refine xmV (rest := []) ⟨hx, hb, hml, hown, hts⟩ (x_setBudget l G cI cQ d o20 hE_o20 (nI bx) _) (cwV 1 hts (goodUp gL_law_X4_setBudget) rfl rfl rfl cd_X4_setBudget ⟨Nat.le_of_ble_eq_true rfl, Nat.le_of_ble_eq_true rfl⟩) hK hP hD hS hA rfl hl.1 rfl (Nat.le_of_ble_eq_true rfl) dL_law_252 ⟨(show 65 + 2 * t + 2 ≤ 600000 by omega), (show 1110 + 12 * t + 12 ≤ 7302250 by omega)⟩ (fun o21 H locs ho21 hP hD hS => ?_)
                  obtain ⟨em1, wm1⟩ := bud_sp hE_o20.1 (show bx ≤ 10000 by omega)
                  have nn1 : ¬ kbu (eC o20) < 0 := by have b := hE_o20.1.2; rw [b.1]; exact nI_pos (by have := b.2; omega)
                  have hE_o21 : EI o21 := ei_act hE_o20 (by rw [em1]; exact wm1) ho21
                  have k1 := k_act (o := o20) (by rw [em1]; exact nn1) ho21
                  refine lv_cvt (y := (kbu (eC o20))) (congrArg Prod.fst em1) ?_
                  refine lv_if_lt (tgt := 311) hx hb dL_law_255 (by decide) (fun c => False.elim (nn1 c)) (fun _ => ?_)
                  refine lv_aload_n hx hb dL_law_258 rfl (lv_at hl 6 rfl) ?_
                  refine lv_bipush (v := 100) hx hb dL_law_259 (by decide) ?_
                  refine xmV (rest := []) ⟨hx, hb, hml, hown, hts⟩ (x_setFactor l G cI cQ d o21 hE_o21 100 _) (cwV 1 hts (goodUp gL_law_X4_setFactor) rfl rfl rfl cd_X4_setFactor ⟨Nat.le_of_ble_eq_true rfl, Nat.le_of_ble_eq_true rfl⟩) hK hP hD hS hA rfl hl.1 rfl (Nat.le_of_ble_eq_true rfl) dL_law_261 ⟨(show 65 + 2 * t + 2 ≤ 600000 by omega), (show 1110 + 12 * t + 12 ≤ 7302250 by omega)⟩ (fun o22 H locs ho22 hP hD hS => ?_)
                  have sp2 := fac_sp hE_o21.1 (f := 100) (by decide) (by decide)
                  have em2 : fFactor (eC o21) 100 = (nI (tgN (ufa (eC o21) (nI 100))), ufa (eC o21) (nI 100)) := sp2.1
                  have nn2 : ¬ nI (tgN (ufa (eC o21) (nI 100))) < 0 := nI_pos (by have := tg_le sp2.2.1; omega)
                  have hE_o22 : EI o22 := ei_act hE_o21 (by rw [em2]; exact sp2.2) ho22
                  have k2 := k_act (o := o21) (by rw [em2]; exact nn2) ho22
                  refine lv_cvt (y := (nI (tgN (ufa (eC o21) (nI 100))))) (congrArg Prod.fst em2) ?_
                  refine lv_if_lt (tgt := 311) hx hb dL_law_264 (by decide) (fun c => False.elim (nn2 c)) (fun _ => ?_)
                  refine lv_aload_n hx hb dL_law_267 rfl (lv_at hl 6 rfl) ?_
                  refine lv_bipush (v := 30) hx hb dL_law_268 (by decide) ?_
                  refine xmV (rest := []) ⟨hx, hb, hml, hown, hts⟩ (x_even l G cI cQ d o22 hE_o22 30 _) (cwV 1 hts (goodUp gL_law_X4_even) rfl rfl rfl cd_X4_even ⟨Nat.le_of_ble_eq_true rfl, Nat.le_of_ble_eq_true rfl⟩) hK hP hD hS hA rfl hl.1 rfl (Nat.le_of_ble_eq_true rfl) dL_law_270 ⟨(show 65 + 2 * t + 2 ≤ 600000 by omega), (show 1110 + 12 * t + 12 ≤ 7302250 by omega)⟩ (fun o23 H locs ho23 hP hD hS => ?_)
                  have ev3 := evn_sp hE_o22.1 (eX o22) (p := 30) (by decide) (by decide)
                  have em3 : (fWalk (eC o22) (eX o22) 30).1 = nI (min 30 (pS (eC o22))) := ev3.1
                  have nn3 : ¬ nI (min 30 (pS (eC o22))) < 0 := nI_pos (by omega)
                  have hE_o23 : EI o23 := ei_even hE_o22 ev3.2.1 ho23
                  have k3 := k_even (o := o22) (by rw [em3]; exact nn3) ho23
                  refine lv_cvt (y := (nI (min 30 (pS (eC o22))))) (em3) ?_
                  refine lv_if_lt (tgt := 311) hx hb dL_law_273 (by decide) (fun c => False.elim (nn3 c)) (fun _ => ?_)
                  refine lv_aload_n hx hb dL_law_276 rfl (lv_at hl 6 rfl) ?_
                  refine xmV (rest := []) ⟨hx, hb, hml, hown, hts⟩ (x_undo l G cI cQ d o23 hE_o23  _) (cwV 0 hts (goodUp gL_law_X4_undo) rfl rfl rfl cd_X4_undo ⟨Nat.le_of_ble_eq_true rfl, Nat.le_of_ble_eq_true rfl⟩) hK hP hD hS hA rfl hl.1 rfl (Nat.le_of_ble_eq_true rfl) dL_law_277 ⟨(show 65 + 2 * t + 2 ≤ 600000 by omega), (show 1110 + 12 * t + 12 ≤ 7302250 by omega)⟩ (fun o24 H locs ho24 hP hD hS => ?_)
                  have un4 := (un_all (o6 := eUndo _) hE_o20 hE_o21.1 hE_o22.1 k1 k2 k3 ho24 rfl rfl).1
                  have hE_o24 := un4.2
                  refine lv_if_lt (tgt := 311) hx hb dL_law_280 (by decide) (fun c => False.elim (un4.1 c)) (fun _ => ?_)
                  refine lv_aload_n hx hb dL_law_283 rfl (lv_at hl 6 rfl) ?_
                  refine xmV (rest := []) ⟨hx, hb, hml, hown, hts⟩ (x_undo l G cI cQ d o24 hE_o24  _) (cwV 0 hts (goodUp gL_law_X4_undo) rfl rfl rfl cd_X4_undo ⟨Nat.le_of_ble_eq_true rfl, Nat.le_of_ble_eq_true rfl⟩) hK hP hD hS hA rfl hl.1 rfl (Nat.le_of_ble_eq_true rfl) dL_law_284 ⟨(show 65 + 2 * t + 2 ≤ 600000 by omega), (show 1110 + 12 * t + 12 ≤ 7302250 by omega)⟩ (fun o25 H locs ho25 hP hD hS => ?_)
                  have un5 := (un_all (o6 := eUndo _) hE_o20 hE_o21.1 hE_o22.1 k1 k2 k3 ho24 ho25 rfl).2.1
                  have hE_o25 := un5.2
                  refine lv_if_lt (tgt := 311) hx hb dL_law_287 (by decide) (fun c => False.elim (un5.1 c)) (fun _ => ?_)
                  refine lv_aload_n hx hb dL_law_290 rfl (lv_at hl 6 rfl) ?_
                  refine xmV (rest := []) ⟨hx, hb, hml, hown, hts⟩ (x_undo l G cI cQ d o25 hE_o25  _) (cwV 0 hts (goodUp gL_law_X4_undo) rfl rfl rfl cd_X4_undo ⟨Nat.le_of_ble_eq_true rfl, Nat.le_of_ble_eq_true rfl⟩) hK hP hD hS hA rfl hl.1 rfl (Nat.le_of_ble_eq_true rfl) dL_law_291 ⟨(show 65 + 2 * t + 2 ≤ 600000 by omega), (show 1110 + 12 * t + 12 ≤ 7302250 by omega)⟩ (fun o26 H locs ho26 hP hD hS => ?_)
                  have un6 := (un_all (o6 := o26) hE_o20 hE_o21.1 hE_o22.1 k1 k2 k3 ho24 ho25 ho26).2.2
                  have hE_o26 := un6.2.1
                  have hv_o26 : 0 < knv (eC o26) := by rw [un6.2.2]; exact hv_o20
                  refine lv_if_lt (tgt := 311) hx hb dL_law_294 (by decide) (fun c => False.elim (un6.1 c)) (fun _ => ?_)
                  refine lv_aload_n hx hb dL_law_297 rfl (lv_at hl 6 rfl) ?_
                  refine xlS (rest := []) ⟨hx, hb, hml, hown, hts⟩ (c_L_sum l G cI cQ d o26 hE_o26) (cwS 1 hts (goodUp gL_law_L_sum) rfl rfl rfl cd_L_sum ⟨Nat.le_of_ble_eq_true rfl, Nat.le_of_ble_eq_true rfl⟩) hK hP rfl hl.1 rfl (Nat.le_of_ble_eq_true rfl) dL_law_298 ⟨(show 65 + 2 * t + 2 ≤ 600000 by omega), (show 1110 + 12 * t + 12 ≤ 7302250 by omega)⟩ ?_
                  refine lv_lload hx hb dL_law_301 (lv_at hl 0 rfl) ?_
                  refine W.lcmp hx hb dL_law_303 ?_
                  refine lv_cvt (y := 0) (by rw [un6.2.2]; exact lcmp_eq _) ?_
                  refine lv_if_ne (tgt := 311) hx hb dL_law_304 (by decide) (fun c => False.elim (c rfl)) (fun _ => ?_)
                  refine lv_iconst (v := 1) hx hb dL_law_307 (by decide) ?_
                  refine lv_goto (tgt := 312) hx hb dL_law_308 (by decide) ?_
                  refine lv_istore_n (lv' := [(2, .int 1), (7, .long (sumF (eC o20))), (6, .int rw), (5, .int rv), (4, .int (nI t)), (3, .int (nI (2 + sv))), (1, .ref (adE d)), (0, .ref bA)]) hx hb dL_law_312 rfl hl (by decide) rfl (fun ls hl => ?_)
                  refine lv_iinc (v := (nI (t + 1))) (lv' := [(4, .int (nI (t + 1))), (2, .int 1), (7, .long (sumF (eC o20))), (6, .int rw), (5, .int rv), (3, .int (nI (2 + sv))), (1, .ref (adE d)), (0, .ref bA)]) hx hb dL_law_313 hl (k := 4) rfl (nI_1 t) (by decide) rfl (fun ls hl => ?_)
                  refine lv_goto (tgt := 87) hx hb dL_law_316 (by decide) ?_
                  refine W.widen (k := 65 + 2 * (t + 1)) (n := 1110 + 12 * (t + 1)) (by omega) (by omega) ?_
                  exact ih_t (t + 1) (by omega) o26 hE_o26 H locs hv_o26 hP hD hS ls (lv_sub hl [0, 5, 1, 6, 7] rfl)
            · skip
              refine lv_aload_n hx hb dL_law_171 rfl (lv_at hl 5 rfl) ?_
              refine xmS (rest := []) ⟨hx, hb, hml, hown, hts⟩ (c_L_refused l G cI cQ d o10 hE_o10 _) (cwS 1 hts (goodUp gL_law_L_refused) rfl rfl rfl cd_L_refused ⟨Nat.le_of_ble_eq_true rfl, Nat.le_of_ble_eq_true rfl⟩) hK hP hD hS hA rfl hl.1 rfl (Nat.le_of_ble_eq_true rfl) dL_law_172 ⟨(show 65 + 2 * t + 2 ≤ 600000 by omega), (show 1110 + 12 * t + 12 ≤ 7302250 by omega)⟩ (fun o27 H locs hp_o27 hP hD hS => ?_)
              have hE_o27 := hp_o27.1
              have hc_o27 : eC o27 = eC o10 := hp_o27.2.1
              have hv_o27 : 0 < knv (eC o27) := by rw [hc_o27]; exact hv_o10
              refine lv_if_eq (tgt := 223) hx hb dL_law_175 (by decide) (fun c => absurd c (by decide)) (fun _ => ?_)
              refine lv_aload_n hx hb dL_law_178 rfl (lv_at hl 5 rfl) ?_
              refine xmS (rest := []) ⟨hx, hb, hml, hown, hts⟩ (c_L_comesSo l G cI cQ d o27 hE_o27 _) (cwS 1 hts (goodUp gL_law_L_comesSo) rfl rfl rfl cd_L_comesSo ⟨Nat.le_of_ble_eq_true rfl, Nat.le_of_ble_eq_true rfl⟩) hK hP hD hS hA rfl hl.1 rfl (Nat.le_of_ble_eq_true rfl) dL_law_179 ⟨(show 65 + 2 * t + 2 ≤ 600000 by omega), (show 1110 + 12 * t + 12 ≤ 7302250 by omega)⟩ (fun o28 H locs hp_o28 hP hD hS => ?_)
              have hE_o28 := hp_o28.1
              have hc_o28 : eC o28 = eC o27 := hp_o28.2
              have hv_o28 : 0 < knv (eC o28) := by rw [hc_o28]; exact hv_o27
              refine lv_if_eq (tgt := 223) hx hb dL_law_182 (by decide) (fun c => absurd c (by decide)) (fun _ => ?_)
              refine lv_iload hx hb dL_law_185 (lv_at hl 2 rfl) ?_
              refine lv_iconst (v := 3) hx hb dL_law_187 (by decide) ?_
              refine lv_irem hx hb dL_law_188 (by decide) ?_
              refine lv_iconst (v := 1) hx hb dL_law_189 (by decide) ?_
              refine lv_icmp_ne (tgt := 200) hx hb dL_law_190 (by decide) (fun c190 => ?_) (fun c190 => ?_)
              · skip
                refine lv_aload_n hx hb dL_law_200 rfl (lv_at hl 5 rfl) ?_
                refine lv_iload hx hb dL_law_201 (lv_at hl 0 rfl) ?_
                refine lv_iconst (v := 5) hx hb dL_law_203 (by decide) ?_
                refine lv_ishr hx hb dL_law_204 ?_
                refine lv_aload_n hx hb dL_law_205 rfl (lv_at hl 5 rfl) ?_
                refine lv_iconst (v := 0) hx hb dL_law_206 (by decide) ?_
                refine xpV (rest := [.int (rw >>> (5 &&& 31)), .ref (adE d)]) ⟨hx, hb, hml, hown, hts⟩ (x_count l G cI cQ d o28 hE_o28 0) (cwV 1 hts (goodUp gL_law_X4_count) rfl rfl rfl cd_X4_count ⟨Nat.le_of_ble_eq_true rfl, Nat.le_of_ble_eq_true rfl⟩) hK hP rfl hl.1 rfl (Nat.le_of_ble_eq_true rfl) dL_law_207 ⟨(show 65 + 2 * t + 2 ≤ 600000 by omega), (show 1110 + 12 * t + 12 ≤ 7302250 by omega)⟩ ?_
                refine lv_cvt (y := (nI (knv (eC o28)))) (rfl) ?_
                refine xpS (rest := [.ref (adE d)]) ⟨hx, hb, hml, hown, hts⟩ (c_L_low l G cI cQ d (rw >>> (5 &&& 31)) (knv (eC o28)) hv_o28 (by have := ci_nv hE_o28.1.1; omega)) (cwS 2 hts (goodUp gL_law_L_low) rfl rfl rfl cd_L_low ⟨Nat.le_of_ble_eq_true rfl, Nat.le_of_ble_eq_true rfl⟩) hK P_nil rfl hl.1 rfl (Nat.le_of_ble_eq_true rfl) dL_law_210 ⟨(show 65 + 2 * t + 2 ≤ 600000 by omega), (show 1110 + 12 * t + 12 ≤ 7302250 by omega)⟩ (fun r_kc hr_kc => ?_)
                obtain ⟨kc, hkc, e_kc⟩ := hr_kc
                subst e_kc
                refine xmS (rest := []) ⟨hx, hb, hml, hown, hts⟩ (c_L_isClosed l G cI cQ d o28 hE_o28 kc hkc _) (cwS 2 hts (goodUp gL_law_L_isClosed) rfl rfl rfl cd_L_isClosed ⟨Nat.le_of_ble_eq_true rfl, Nat.le_of_ble_eq_true rfl⟩) hK hP hD hS hA rfl hl.1 rfl (Nat.le_of_ble_eq_true rfl) dL_law_213 ⟨(show 65 + 2 * t + 2 ≤ 600000 by omega), (show 1110 + 12 * t + 12 ≤ 7302250 by omega)⟩ (fun o29 H locs hp_o29 hP hD hS => ?_)
                have hE_o29 := hp_o29.1
                have hc_o29 : eC o29 = eC o28 := hp_o29.2
                have hv_o29 : 0 < knv (eC o29) := by rw [hc_o29]; exact hv_o28
                refine lv_if_eq (tgt := 223) hx hb dL_law_216 (by decide) (fun c => absurd c (by decide)) (fun _ => ?_)
                refine lv_iconst (v := 1) hx hb dL_law_219 (by decide) ?_
                refine lv_goto (tgt := 224) hx hb dL_law_220 (by decide) ?_
                refine lv_istore_n (lv' := [(2, .int 1), (6, .int rw), (5, .int rv), (4, .int (nI t)), (3, .int (nI (2 + sv))), (1, .ref (adE d)), (0, .ref bA)]) hx hb dL_law_224 rfl hl (by decide) rfl (fun ls hl => ?_)
                refine lv_iload_n hx hb dL_law_225 rfl (lv_at hl 0 rfl) ?_
                refine lv_if_eq (tgt := 313) hx hb dL_law_226 (by decide) (fun c => absurd c (by decide)) (fun _ => ?_)
                refine lv_iload hx hb dL_law_229 (lv_at hl 3 rfl) ?_
                refine lv_iconst (v := 5) hx hb dL_law_231 (by decide) ?_
                refine lv_irem hx hb dL_law_232 (by decide) ?_
                refine lv_iconst (v := 4) hx hb dL_law_233 (by decide) ?_
                refine lv_icmp_ne (tgt := 313) hx hb dL_law_234 (by decide) (fun c234 => ?_) (fun c234 => ?_)
                · skip
                  refine lv_iinc (v := (nI (t + 1))) (lv' := [(4, .int (nI (t + 1))), (2, .int 1), (6, .int rw), (5, .int rv), (3, .int (nI (2 + sv))), (1, .ref (adE d)), (0, .ref bA)]) hx hb dL_law_313 hl (k := 3) rfl (nI_1 t) (by decide) rfl (fun ls hl => ?_)
                  refine lv_goto (tgt := 87) hx hb dL_law_316 (by decide) ?_
                  refine W.widen (k := 65 + 2 * (t + 1)) (n := 1110 + 12 * (t + 1)) (by omega) (by omega) ?_
                  exact ih_t (t + 1) (by omega) o29 hE_o29 H locs hv_o29 hP hD hS ls (lv_sub hl [0, 4, 1, 5, 6] rfl)
                · skip
                  refine lv_aload_n hx hb dL_law_237 rfl (lv_at hl 5 rfl) ?_
                  refine xlS (rest := []) ⟨hx, hb, hml, hown, hts⟩ (c_L_sum l G cI cQ d o29 hE_o29) (cwS 1 hts (goodUp gL_law_L_sum) rfl rfl rfl cd_L_sum ⟨Nat.le_of_ble_eq_true rfl, Nat.le_of_ble_eq_true rfl⟩) hK hP rfl hl.1 rfl (Nat.le_of_ble_eq_true rfl) dL_law_238 ⟨(show 65 + 2 * t + 2 ≤ 600000 by omega), (show 1110 + 12 * t + 12 ≤ 7302250 by omega)⟩ ?_
                  refine lv_lstore (lv' := [(7, .long (sumF (eC o29))), (2, .int 1), (6, .int rw), (5, .int rv), (4, .int (nI t)), (3, .int (nI (2 + sv))), (1, .ref (adE d)), (0, .ref bA)]) hx hb dL_law_241 hl (by decide) rfl (fun ls hl => ?_)
                  refine lv_aload_n hx hb dL_law_243 rfl (lv_at hl 6 rfl) ?_
                  refine lv_iload hx hb dL_law_244 (lv_at hl 3 rfl) ?_
                  refine lv_sipush (v := 10001) hx hb dL_law_246 (by decide) ?_
                  refine xpS (rest := [.ref (adE d)]) ⟨hx, hb, hml, hown, hts⟩ (c_L_low l G cI cQ d rv 10001 (by decide) (by omega)) (cwS 2 hts (goodUp gL_law_L_low) rfl rfl rfl cd_L_low ⟨Nat.le_of_ble_eq_true rfl, Nat.le_of_ble_eq_true rfl⟩) hK P_nil rfl hl.1 rfl (Nat.le_of_ble_eq_true rfl) dL_law_249 ⟨(show 65 + 2 * t + 2 ≤ 600000 by omega), (show 1110 + 12 * t + 12 ≤ 7302250 by omega)⟩ (fun r_bx hr_bx => ?_)
                  obtain ⟨bx, hbx, e_bx⟩ := hr_bx
                  subst e_bx
                  refine xmV (rest := []) ⟨hx, hb, hml, hown, hts⟩ (x_setBudget l G cI cQ d o29 hE_o29 (nI bx) _) (cwV 1 hts (goodUp gL_law_X4_setBudget) rfl rfl rfl cd_X4_setBudget ⟨Nat.le_of_ble_eq_true rfl, Nat.le_of_ble_eq_true rfl⟩) hK hP hD hS hA rfl hl.1 rfl (Nat.le_of_ble_eq_true rfl) dL_law_252 ⟨(show 65 + 2 * t + 2 ≤ 600000 by omega), (show 1110 + 12 * t + 12 ≤ 7302250 by omega)⟩ (fun o30 H locs ho30 hP hD hS => ?_)
                  obtain ⟨em1, wm1⟩ := bud_sp hE_o29.1 (show bx ≤ 10000 by omega)
                  have nn1 : ¬ kbu (eC o29) < 0 := by have b := hE_o29.1.2; rw [b.1]; exact nI_pos (by have := b.2; omega)
                  have hE_o30 : EI o30 := ei_act hE_o29 (by rw [em1]; exact wm1) ho30
                  have k1 := k_act (o := o29) (by rw [em1]; exact nn1) ho30
                  refine lv_cvt (y := (kbu (eC o29))) (congrArg Prod.fst em1) ?_
                  refine lv_if_lt (tgt := 311) hx hb dL_law_255 (by decide) (fun c => False.elim (nn1 c)) (fun _ => ?_)
                  refine lv_aload_n hx hb dL_law_258 rfl (lv_at hl 6 rfl) ?_
                  refine lv_bipush (v := 100) hx hb dL_law_259 (by decide) ?_
                  refine xmV (rest := []) ⟨hx, hb, hml, hown, hts⟩ (x_setFactor l G cI cQ d o30 hE_o30 100 _) (cwV 1 hts (goodUp gL_law_X4_setFactor) rfl rfl rfl cd_X4_setFactor ⟨Nat.le_of_ble_eq_true rfl, Nat.le_of_ble_eq_true rfl⟩) hK hP hD hS hA rfl hl.1 rfl (Nat.le_of_ble_eq_true rfl) dL_law_261 ⟨(show 65 + 2 * t + 2 ≤ 600000 by omega), (show 1110 + 12 * t + 12 ≤ 7302250 by omega)⟩ (fun o31 H locs ho31 hP hD hS => ?_)
                  have sp2 := fac_sp hE_o30.1 (f := 100) (by decide) (by decide)
                  have em2 : fFactor (eC o30) 100 = (nI (tgN (ufa (eC o30) (nI 100))), ufa (eC o30) (nI 100)) := sp2.1
                  have nn2 : ¬ nI (tgN (ufa (eC o30) (nI 100))) < 0 := nI_pos (by have := tg_le sp2.2.1; omega)
                  have hE_o31 : EI o31 := ei_act hE_o30 (by rw [em2]; exact sp2.2) ho31
                  have k2 := k_act (o := o30) (by rw [em2]; exact nn2) ho31
                  refine lv_cvt (y := (nI (tgN (ufa (eC o30) (nI 100))))) (congrArg Prod.fst em2) ?_
                  refine lv_if_lt (tgt := 311) hx hb dL_law_264 (by decide) (fun c => False.elim (nn2 c)) (fun _ => ?_)
                  refine lv_aload_n hx hb dL_law_267 rfl (lv_at hl 6 rfl) ?_
                  refine lv_bipush (v := 30) hx hb dL_law_268 (by decide) ?_
                  refine xmV (rest := []) ⟨hx, hb, hml, hown, hts⟩ (x_even l G cI cQ d o31 hE_o31 30 _) (cwV 1 hts (goodUp gL_law_X4_even) rfl rfl rfl cd_X4_even ⟨Nat.le_of_ble_eq_true rfl, Nat.le_of_ble_eq_true rfl⟩) hK hP hD hS hA rfl hl.1 rfl (Nat.le_of_ble_eq_true rfl) dL_law_270 ⟨(show 65 + 2 * t + 2 ≤ 600000 by omega), (show 1110 + 12 * t + 12 ≤ 7302250 by omega)⟩ (fun o32 H locs ho32 hP hD hS => ?_)
                  have ev3 := evn_sp hE_o31.1 (eX o31) (p := 30) (by decide) (by decide)
                  have em3 : (fWalk (eC o31) (eX o31) 30).1 = nI (min 30 (pS (eC o31))) := ev3.1
                  have nn3 : ¬ nI (min 30 (pS (eC o31))) < 0 := nI_pos (by omega)
                  have hE_o32 : EI o32 := ei_even hE_o31 ev3.2.1 ho32
                  have k3 := k_even (o := o31) (by rw [em3]; exact nn3) ho32
                  refine lv_cvt (y := (nI (min 30 (pS (eC o31))))) (em3) ?_
                  refine lv_if_lt (tgt := 311) hx hb dL_law_273 (by decide) (fun c => False.elim (nn3 c)) (fun _ => ?_)
                  refine lv_aload_n hx hb dL_law_276 rfl (lv_at hl 6 rfl) ?_
                  refine xmV (rest := []) ⟨hx, hb, hml, hown, hts⟩ (x_undo l G cI cQ d o32 hE_o32  _) (cwV 0 hts (goodUp gL_law_X4_undo) rfl rfl rfl cd_X4_undo ⟨Nat.le_of_ble_eq_true rfl, Nat.le_of_ble_eq_true rfl⟩) hK hP hD hS hA rfl hl.1 rfl (Nat.le_of_ble_eq_true rfl) dL_law_277 ⟨(show 65 + 2 * t + 2 ≤ 600000 by omega), (show 1110 + 12 * t + 12 ≤ 7302250 by omega)⟩ (fun o33 H locs ho33 hP hD hS => ?_)
                  have un4 := (un_all (o6 := eUndo _) hE_o29 hE_o30.1 hE_o31.1 k1 k2 k3 ho33 rfl rfl).1
                  have hE_o33 := un4.2
                  refine lv_if_lt (tgt := 311) hx hb dL_law_280 (by decide) (fun c => False.elim (un4.1 c)) (fun _ => ?_)
                  refine lv_aload_n hx hb dL_law_283 rfl (lv_at hl 6 rfl) ?_
                  refine xmV (rest := []) ⟨hx, hb, hml, hown, hts⟩ (x_undo l G cI cQ d o33 hE_o33  _) (cwV 0 hts (goodUp gL_law_X4_undo) rfl rfl rfl cd_X4_undo ⟨Nat.le_of_ble_eq_true rfl, Nat.le_of_ble_eq_true rfl⟩) hK hP hD hS hA rfl hl.1 rfl (Nat.le_of_ble_eq_true rfl) dL_law_284 ⟨(show 65 + 2 * t + 2 ≤ 600000 by omega), (show 1110 + 12 * t + 12 ≤ 7302250 by omega)⟩ (fun o34 H locs ho34 hP hD hS => ?_)
                  have un5 := (un_all (o6 := eUndo _) hE_o29 hE_o30.1 hE_o31.1 k1 k2 k3 ho33 ho34 rfl).2.1
                  have hE_o34 := un5.2
                  refine lv_if_lt (tgt := 311) hx hb dL_law_287 (by decide) (fun c => False.elim (un5.1 c)) (fun _ => ?_)
                  refine lv_aload_n hx hb dL_law_290 rfl (lv_at hl 6 rfl) ?_
                  refine xmV (rest := []) ⟨hx, hb, hml, hown, hts⟩ (x_undo l G cI cQ d o34 hE_o34  _) (cwV 0 hts (goodUp gL_law_X4_undo) rfl rfl rfl cd_X4_undo ⟨Nat.le_of_ble_eq_true rfl, Nat.le_of_ble_eq_true rfl⟩) hK hP hD hS hA rfl hl.1 rfl (Nat.le_of_ble_eq_true rfl) dL_law_291 ⟨(show 65 + 2 * t + 2 ≤ 600000 by omega), (show 1110 + 12 * t + 12 ≤ 7302250 by omega)⟩ (fun o35 H locs ho35 hP hD hS => ?_)
                  have un6 := (un_all (o6 := o35) hE_o29 hE_o30.1 hE_o31.1 k1 k2 k3 ho33 ho34 ho35).2.2
                  have hE_o35 := un6.2.1
                  have hv_o35 : 0 < knv (eC o35) := by rw [un6.2.2]; exact hv_o29
                  refine lv_if_lt (tgt := 311) hx hb dL_law_294 (by decide) (fun c => False.elim (un6.1 c)) (fun _ => ?_)
                  refine lv_aload_n hx hb dL_law_297 rfl (lv_at hl 6 rfl) ?_
                  refine xlS (rest := []) ⟨hx, hb, hml, hown, hts⟩ (c_L_sum l G cI cQ d o35 hE_o35) (cwS 1 hts (goodUp gL_law_L_sum) rfl rfl rfl cd_L_sum ⟨Nat.le_of_ble_eq_true rfl, Nat.le_of_ble_eq_true rfl⟩) hK hP rfl hl.1 rfl (Nat.le_of_ble_eq_true rfl) dL_law_298 ⟨(show 65 + 2 * t + 2 ≤ 600000 by omega), (show 1110 + 12 * t + 12 ≤ 7302250 by omega)⟩ ?_
                  refine lv_lload hx hb dL_law_301 (lv_at hl 0 rfl) ?_
                  refine W.lcmp hx hb dL_law_303 ?_
                  refine lv_cvt (y := 0) (by rw [un6.2.2]; exact lcmp_eq _) ?_
                  refine lv_if_ne (tgt := 311) hx hb dL_law_304 (by decide) (fun c => False.elim (c rfl)) (fun _ => ?_)
                  refine lv_iconst (v := 1) hx hb dL_law_307 (by decide) ?_
                  refine lv_goto (tgt := 312) hx hb dL_law_308 (by decide) ?_
                  refine lv_istore_n (lv' := [(2, .int 1), (7, .long (sumF (eC o29))), (6, .int rw), (5, .int rv), (4, .int (nI t)), (3, .int (nI (2 + sv))), (1, .ref (adE d)), (0, .ref bA)]) hx hb dL_law_312 rfl hl (by decide) rfl (fun ls hl => ?_)
                  refine lv_iinc (v := (nI (t + 1))) (lv' := [(4, .int (nI (t + 1))), (2, .int 1), (7, .long (sumF (eC o29))), (6, .int rw), (5, .int rv), (3, .int (nI (2 + sv))), (1, .ref (adE d)), (0, .ref bA)]) hx hb dL_law_313 hl (k := 4) rfl (nI_1 t) (by decide) rfl (fun ls hl => ?_)
                  refine lv_goto (tgt := 87) hx hb dL_law_316 (by decide) ?_
                  refine W.widen (k := 65 + 2 * (t + 1)) (n := 1110 + 12 * (t + 1)) (by omega) (by omega) ?_
                  exact ih_t (t + 1) (by omega) o35 hE_o35 H locs hv_o35 hP hD hS ls (lv_sub hl [0, 5, 1, 6, 7] rfl)
              · skip
                refine lv_aload_n hx hb dL_law_193 rfl (lv_at hl 5 rfl) ?_
                refine xmS (rest := []) ⟨hx, hb, hml, hown, hts⟩ (c_L_areFewest l G cI cQ d o28 hE_o28 _) (cwS 1 hts (goodUp gL_law_L_areFewest) rfl rfl rfl cd_L_areFewest ⟨Nat.le_of_ble_eq_true rfl, Nat.le_of_ble_eq_true rfl⟩) hK hP hD hS hA rfl hl.1 rfl (Nat.le_of_ble_eq_true rfl) dL_law_194 ⟨(show 65 + 2 * t + 2 ≤ 600000 by omega), (show 1110 + 12 * t + 12 ≤ 7302250 by omega)⟩ (fun o36 H locs hp_o36 hP hD hS => ?_)
                have hE_o36 := hp_o36.1
                have hc_o36 : eC o36 = eC o28 := hp_o36.2
                have hv_o36 : 0 < knv (eC o36) := by rw [hc_o36]; exact hv_o28
                refine lv_if_eq (tgt := 223) hx hb dL_law_197 (by decide) (fun c => absurd c (by decide)) (fun _ => ?_)
                refine lv_aload_n hx hb dL_law_200 rfl (lv_at hl 5 rfl) ?_
                refine lv_iload hx hb dL_law_201 (lv_at hl 0 rfl) ?_
                refine lv_iconst (v := 5) hx hb dL_law_203 (by decide) ?_
                refine lv_ishr hx hb dL_law_204 ?_
                refine lv_aload_n hx hb dL_law_205 rfl (lv_at hl 5 rfl) ?_
                refine lv_iconst (v := 0) hx hb dL_law_206 (by decide) ?_
                refine xpV (rest := [.int (rw >>> (5 &&& 31)), .ref (adE d)]) ⟨hx, hb, hml, hown, hts⟩ (x_count l G cI cQ d o36 hE_o36 0) (cwV 1 hts (goodUp gL_law_X4_count) rfl rfl rfl cd_X4_count ⟨Nat.le_of_ble_eq_true rfl, Nat.le_of_ble_eq_true rfl⟩) hK hP rfl hl.1 rfl (Nat.le_of_ble_eq_true rfl) dL_law_207 ⟨(show 65 + 2 * t + 2 ≤ 600000 by omega), (show 1110 + 12 * t + 12 ≤ 7302250 by omega)⟩ ?_
                refine lv_cvt (y := (nI (knv (eC o36)))) (rfl) ?_
                refine xpS (rest := [.ref (adE d)]) ⟨hx, hb, hml, hown, hts⟩ (c_L_low l G cI cQ d (rw >>> (5 &&& 31)) (knv (eC o36)) hv_o36 (by have := ci_nv hE_o36.1.1; omega)) (cwS 2 hts (goodUp gL_law_L_low) rfl rfl rfl cd_L_low ⟨Nat.le_of_ble_eq_true rfl, Nat.le_of_ble_eq_true rfl⟩) hK P_nil rfl hl.1 rfl (Nat.le_of_ble_eq_true rfl) dL_law_210 ⟨(show 65 + 2 * t + 2 ≤ 600000 by omega), (show 1110 + 12 * t + 12 ≤ 7302250 by omega)⟩ (fun r_kc hr_kc => ?_)
                obtain ⟨kc, hkc, e_kc⟩ := hr_kc
                subst e_kc
                refine xmS (rest := []) ⟨hx, hb, hml, hown, hts⟩ (c_L_isClosed l G cI cQ d o36 hE_o36 kc hkc _) (cwS 2 hts (goodUp gL_law_L_isClosed) rfl rfl rfl cd_L_isClosed ⟨Nat.le_of_ble_eq_true rfl, Nat.le_of_ble_eq_true rfl⟩) hK hP hD hS hA rfl hl.1 rfl (Nat.le_of_ble_eq_true rfl) dL_law_213 ⟨(show 65 + 2 * t + 2 ≤ 600000 by omega), (show 1110 + 12 * t + 12 ≤ 7302250 by omega)⟩ (fun o37 H locs hp_o37 hP hD hS => ?_)
                have hE_o37 := hp_o37.1
                have hc_o37 : eC o37 = eC o36 := hp_o37.2
                have hv_o37 : 0 < knv (eC o37) := by rw [hc_o37]; exact hv_o36
                refine lv_if_eq (tgt := 223) hx hb dL_law_216 (by decide) (fun c => absurd c (by decide)) (fun _ => ?_)
                refine lv_iconst (v := 1) hx hb dL_law_219 (by decide) ?_
                refine lv_goto (tgt := 224) hx hb dL_law_220 (by decide) ?_
                refine lv_istore_n (lv' := [(2, .int 1), (6, .int rw), (5, .int rv), (4, .int (nI t)), (3, .int (nI (2 + sv))), (1, .ref (adE d)), (0, .ref bA)]) hx hb dL_law_224 rfl hl (by decide) rfl (fun ls hl => ?_)
                refine lv_iload_n hx hb dL_law_225 rfl (lv_at hl 0 rfl) ?_
                refine lv_if_eq (tgt := 313) hx hb dL_law_226 (by decide) (fun c => absurd c (by decide)) (fun _ => ?_)
                refine lv_iload hx hb dL_law_229 (lv_at hl 3 rfl) ?_
                refine lv_iconst (v := 5) hx hb dL_law_231 (by decide) ?_
                refine lv_irem hx hb dL_law_232 (by decide) ?_
                refine lv_iconst (v := 4) hx hb dL_law_233 (by decide) ?_
                refine lv_icmp_ne (tgt := 313) hx hb dL_law_234 (by decide) (fun c234 => ?_) (fun c234 => ?_)
                · skip
                  refine lv_iinc (v := (nI (t + 1))) (lv' := [(4, .int (nI (t + 1))), (2, .int 1), (6, .int rw), (5, .int rv), (3, .int (nI (2 + sv))), (1, .ref (adE d)), (0, .ref bA)]) hx hb dL_law_313 hl (k := 3) rfl (nI_1 t) (by decide) rfl (fun ls hl => ?_)
                  refine lv_goto (tgt := 87) hx hb dL_law_316 (by decide) ?_
                  refine W.widen (k := 65 + 2 * (t + 1)) (n := 1110 + 12 * (t + 1)) (by omega) (by omega) ?_
                  exact ih_t (t + 1) (by omega) o37 hE_o37 H locs hv_o37 hP hD hS ls (lv_sub hl [0, 4, 1, 5, 6] rfl)
                · skip
                  refine lv_aload_n hx hb dL_law_237 rfl (lv_at hl 5 rfl) ?_
                  refine xlS (rest := []) ⟨hx, hb, hml, hown, hts⟩ (c_L_sum l G cI cQ d o37 hE_o37) (cwS 1 hts (goodUp gL_law_L_sum) rfl rfl rfl cd_L_sum ⟨Nat.le_of_ble_eq_true rfl, Nat.le_of_ble_eq_true rfl⟩) hK hP rfl hl.1 rfl (Nat.le_of_ble_eq_true rfl) dL_law_238 ⟨(show 65 + 2 * t + 2 ≤ 600000 by omega), (show 1110 + 12 * t + 12 ≤ 7302250 by omega)⟩ ?_
                  refine lv_lstore (lv' := [(7, .long (sumF (eC o37))), (2, .int 1), (6, .int rw), (5, .int rv), (4, .int (nI t)), (3, .int (nI (2 + sv))), (1, .ref (adE d)), (0, .ref bA)]) hx hb dL_law_241 hl (by decide) rfl (fun ls hl => ?_)
                  refine lv_aload_n hx hb dL_law_243 rfl (lv_at hl 6 rfl) ?_
                  refine lv_iload hx hb dL_law_244 (lv_at hl 3 rfl) ?_
                  refine lv_sipush (v := 10001) hx hb dL_law_246 (by decide) ?_
                  refine xpS (rest := [.ref (adE d)]) ⟨hx, hb, hml, hown, hts⟩ (c_L_low l G cI cQ d rv 10001 (by decide) (by omega)) (cwS 2 hts (goodUp gL_law_L_low) rfl rfl rfl cd_L_low ⟨Nat.le_of_ble_eq_true rfl, Nat.le_of_ble_eq_true rfl⟩) hK P_nil rfl hl.1 rfl (Nat.le_of_ble_eq_true rfl) dL_law_249 ⟨(show 65 + 2 * t + 2 ≤ 600000 by omega), (show 1110 + 12 * t + 12 ≤ 7302250 by omega)⟩ (fun r_bx hr_bx => ?_)
                  obtain ⟨bx, hbx, e_bx⟩ := hr_bx
                  subst e_bx
                  refine xmV (rest := []) ⟨hx, hb, hml, hown, hts⟩ (x_setBudget l G cI cQ d o37 hE_o37 (nI bx) _) (cwV 1 hts (goodUp gL_law_X4_setBudget) rfl rfl rfl cd_X4_setBudget ⟨Nat.le_of_ble_eq_true rfl, Nat.le_of_ble_eq_true rfl⟩) hK hP hD hS hA rfl hl.1 rfl (Nat.le_of_ble_eq_true rfl) dL_law_252 ⟨(show 65 + 2 * t + 2 ≤ 600000 by omega), (show 1110 + 12 * t + 12 ≤ 7302250 by omega)⟩ (fun o38 H locs ho38 hP hD hS => ?_)
                  obtain ⟨em1, wm1⟩ := bud_sp hE_o37.1 (show bx ≤ 10000 by omega)
                  have nn1 : ¬ kbu (eC o37) < 0 := by have b := hE_o37.1.2; rw [b.1]; exact nI_pos (by have := b.2; omega)
                  have hE_o38 : EI o38 := ei_act hE_o37 (by rw [em1]; exact wm1) ho38
                  have k1 := k_act (o := o37) (by rw [em1]; exact nn1) ho38
                  refine lv_cvt (y := (kbu (eC o37))) (congrArg Prod.fst em1) ?_
                  refine lv_if_lt (tgt := 311) hx hb dL_law_255 (by decide) (fun c => False.elim (nn1 c)) (fun _ => ?_)
                  refine lv_aload_n hx hb dL_law_258 rfl (lv_at hl 6 rfl) ?_
                  refine lv_bipush (v := 100) hx hb dL_law_259 (by decide) ?_
                  refine xmV (rest := []) ⟨hx, hb, hml, hown, hts⟩ (x_setFactor l G cI cQ d o38 hE_o38 100 _) (cwV 1 hts (goodUp gL_law_X4_setFactor) rfl rfl rfl cd_X4_setFactor ⟨Nat.le_of_ble_eq_true rfl, Nat.le_of_ble_eq_true rfl⟩) hK hP hD hS hA rfl hl.1 rfl (Nat.le_of_ble_eq_true rfl) dL_law_261 ⟨(show 65 + 2 * t + 2 ≤ 600000 by omega), (show 1110 + 12 * t + 12 ≤ 7302250 by omega)⟩ (fun o39 H locs ho39 hP hD hS => ?_)
                  have sp2 := fac_sp hE_o38.1 (f := 100) (by decide) (by decide)
                  have em2 : fFactor (eC o38) 100 = (nI (tgN (ufa (eC o38) (nI 100))), ufa (eC o38) (nI 100)) := sp2.1
                  have nn2 : ¬ nI (tgN (ufa (eC o38) (nI 100))) < 0 := nI_pos (by have := tg_le sp2.2.1; omega)
                  have hE_o39 : EI o39 := ei_act hE_o38 (by rw [em2]; exact sp2.2) ho39
                  have k2 := k_act (o := o38) (by rw [em2]; exact nn2) ho39
                  refine lv_cvt (y := (nI (tgN (ufa (eC o38) (nI 100))))) (congrArg Prod.fst em2) ?_
                  refine lv_if_lt (tgt := 311) hx hb dL_law_264 (by decide) (fun c => False.elim (nn2 c)) (fun _ => ?_)
                  refine lv_aload_n hx hb dL_law_267 rfl (lv_at hl 6 rfl) ?_
                  refine lv_bipush (v := 30) hx hb dL_law_268 (by decide) ?_
                  refine xmV (rest := []) ⟨hx, hb, hml, hown, hts⟩ (x_even l G cI cQ d o39 hE_o39 30 _) (cwV 1 hts (goodUp gL_law_X4_even) rfl rfl rfl cd_X4_even ⟨Nat.le_of_ble_eq_true rfl, Nat.le_of_ble_eq_true rfl⟩) hK hP hD hS hA rfl hl.1 rfl (Nat.le_of_ble_eq_true rfl) dL_law_270 ⟨(show 65 + 2 * t + 2 ≤ 600000 by omega), (show 1110 + 12 * t + 12 ≤ 7302250 by omega)⟩ (fun o40 H locs ho40 hP hD hS => ?_)
                  have ev3 := evn_sp hE_o39.1 (eX o39) (p := 30) (by decide) (by decide)
                  have em3 : (fWalk (eC o39) (eX o39) 30).1 = nI (min 30 (pS (eC o39))) := ev3.1
                  have nn3 : ¬ nI (min 30 (pS (eC o39))) < 0 := nI_pos (by omega)
                  have hE_o40 : EI o40 := ei_even hE_o39 ev3.2.1 ho40
                  have k3 := k_even (o := o39) (by rw [em3]; exact nn3) ho40
                  refine lv_cvt (y := (nI (min 30 (pS (eC o39))))) (em3) ?_
                  refine lv_if_lt (tgt := 311) hx hb dL_law_273 (by decide) (fun c => False.elim (nn3 c)) (fun _ => ?_)
                  refine lv_aload_n hx hb dL_law_276 rfl (lv_at hl 6 rfl) ?_
                  refine xmV (rest := []) ⟨hx, hb, hml, hown, hts⟩ (x_undo l G cI cQ d o40 hE_o40  _) (cwV 0 hts (goodUp gL_law_X4_undo) rfl rfl rfl cd_X4_undo ⟨Nat.le_of_ble_eq_true rfl, Nat.le_of_ble_eq_true rfl⟩) hK hP hD hS hA rfl hl.1 rfl (Nat.le_of_ble_eq_true rfl) dL_law_277 ⟨(show 65 + 2 * t + 2 ≤ 600000 by omega), (show 1110 + 12 * t + 12 ≤ 7302250 by omega)⟩ (fun o41 H locs ho41 hP hD hS => ?_)
                  have un4 := (un_all (o6 := eUndo _) hE_o37 hE_o38.1 hE_o39.1 k1 k2 k3 ho41 rfl rfl).1
                  have hE_o41 := un4.2
                  refine lv_if_lt (tgt := 311) hx hb dL_law_280 (by decide) (fun c => False.elim (un4.1 c)) (fun _ => ?_)
                  refine lv_aload_n hx hb dL_law_283 rfl (lv_at hl 6 rfl) ?_
                  refine xmV (rest := []) ⟨hx, hb, hml, hown, hts⟩ (x_undo l G cI cQ d o41 hE_o41  _) (cwV 0 hts (goodUp gL_law_X4_undo) rfl rfl rfl cd_X4_undo ⟨Nat.le_of_ble_eq_true rfl, Nat.le_of_ble_eq_true rfl⟩) hK hP hD hS hA rfl hl.1 rfl (Nat.le_of_ble_eq_true rfl) dL_law_284 ⟨(show 65 + 2 * t + 2 ≤ 600000 by omega), (show 1110 + 12 * t + 12 ≤ 7302250 by omega)⟩ (fun o42 H locs ho42 hP hD hS => ?_)
                  have un5 := (un_all (o6 := eUndo _) hE_o37 hE_o38.1 hE_o39.1 k1 k2 k3 ho41 ho42 rfl).2.1
                  have hE_o42 := un5.2
                  refine lv_if_lt (tgt := 311) hx hb dL_law_287 (by decide) (fun c => False.elim (un5.1 c)) (fun _ => ?_)
                  refine lv_aload_n hx hb dL_law_290 rfl (lv_at hl 6 rfl) ?_
                  refine xmV (rest := []) ⟨hx, hb, hml, hown, hts⟩ (x_undo l G cI cQ d o42 hE_o42  _) (cwV 0 hts (goodUp gL_law_X4_undo) rfl rfl rfl cd_X4_undo ⟨Nat.le_of_ble_eq_true rfl, Nat.le_of_ble_eq_true rfl⟩) hK hP hD hS hA rfl hl.1 rfl (Nat.le_of_ble_eq_true rfl) dL_law_291 ⟨(show 65 + 2 * t + 2 ≤ 600000 by omega), (show 1110 + 12 * t + 12 ≤ 7302250 by omega)⟩ (fun o43 H locs ho43 hP hD hS => ?_)
                  have un6 := (un_all (o6 := o43) hE_o37 hE_o38.1 hE_o39.1 k1 k2 k3 ho41 ho42 ho43).2.2
                  have hE_o43 := un6.2.1
                  have hv_o43 : 0 < knv (eC o43) := by rw [un6.2.2]; exact hv_o37
                  refine lv_if_lt (tgt := 311) hx hb dL_law_294 (by decide) (fun c => False.elim (un6.1 c)) (fun _ => ?_)
                  refine lv_aload_n hx hb dL_law_297 rfl (lv_at hl 6 rfl) ?_
                  refine xlS (rest := []) ⟨hx, hb, hml, hown, hts⟩ (c_L_sum l G cI cQ d o43 hE_o43) (cwS 1 hts (goodUp gL_law_L_sum) rfl rfl rfl cd_L_sum ⟨Nat.le_of_ble_eq_true rfl, Nat.le_of_ble_eq_true rfl⟩) hK hP rfl hl.1 rfl (Nat.le_of_ble_eq_true rfl) dL_law_298 ⟨(show 65 + 2 * t + 2 ≤ 600000 by omega), (show 1110 + 12 * t + 12 ≤ 7302250 by omega)⟩ ?_
                  refine lv_lload hx hb dL_law_301 (lv_at hl 0 rfl) ?_
                  refine W.lcmp hx hb dL_law_303 ?_
                  refine lv_cvt (y := 0) (by rw [un6.2.2]; exact lcmp_eq _) ?_
                  refine lv_if_ne (tgt := 311) hx hb dL_law_304 (by decide) (fun c => False.elim (c rfl)) (fun _ => ?_)
                  refine lv_iconst (v := 1) hx hb dL_law_307 (by decide) ?_
                  refine lv_goto (tgt := 312) hx hb dL_law_308 (by decide) ?_
                  refine lv_istore_n (lv' := [(2, .int 1), (7, .long (sumF (eC o37))), (6, .int rw), (5, .int rv), (4, .int (nI t)), (3, .int (nI (2 + sv))), (1, .ref (adE d)), (0, .ref bA)]) hx hb dL_law_312 rfl hl (by decide) rfl (fun ls hl => ?_)
                  refine lv_iinc (v := (nI (t + 1))) (lv' := [(4, .int (nI (t + 1))), (2, .int 1), (7, .long (sumF (eC o37))), (6, .int rw), (5, .int rv), (3, .int (nI (2 + sv))), (1, .ref (adE d)), (0, .ref bA)]) hx hb dL_law_313 hl (k := 4) rfl (nI_1 t) (by decide) rfl (fun ls hl => ?_)
                  refine lv_goto (tgt := 87) hx hb dL_law_316 (by decide) ?_
                  refine W.widen (k := 65 + 2 * (t + 1)) (n := 1110 + 12 * (t + 1)) (by omega) (by omega) ?_
                  exact ih_t (t + 1) (by omega) o43 hE_o43 H locs hv_o43 hP hD hS ls (lv_sub hl [0, 5, 1, 6, 7] rfl)
          refine lv_aload_n hx hb dL_law_120 rfl (lv_at hl 5 rfl) ?_
          refine lv_iload hx hb dL_law_121 (lv_at hl 2 rfl) ?_
          refine lv_bipush (v := 8) hx hb dL_law_123 (by decide) ?_
          refine lv_icmp_ge (tgt := 132) hx hb dL_law_125 (by decide) (fun c125 => ?_) (fun c125 => ?_)
          · skip
            refine lv_iload hx hb dL_law_132 (lv_at hl 1 rfl) ?_
            refine lv_iconst (v := 2) hx hb dL_law_134 (by decide) ?_
            refine lv_ishr hx hb dL_law_135 ?_
            refine lv_bipush (v := 18) hx hb dL_law_136 (by decide) ?_
            refine xpS (rest := [.ref (adE d)]) ⟨hx, hb, hml, hown, hts⟩ (c_L_low l G cI cQ d (rv >>> (2 &&& 31)) 18 (by decide) (by omega)) (cwS 2 hts (goodUp gL_law_L_low) rfl rfl rfl cd_L_low ⟨Nat.le_of_ble_eq_true rfl, Nat.le_of_ble_eq_true rfl⟩) hK P_nil rfl hl.1 rfl (Nat.le_of_ble_eq_true rfl) dL_law_138 ⟨(show 65 + 2 * t ≤ 600000 by omega), (show 1110 + 12 * t ≤ 7302250 by omega)⟩ (fun r_kd hr_kd => ?_)
            obtain ⟨kd, hkd, e_kd⟩ := hr_kd
            subst e_kd
            exact K141 kd hkd ls hl
          · skip
            refine lv_iconst (v := 0) hx hb dL_law_128 (by decide) ?_
            refine lv_goto (tgt := 141) hx hb dL_law_129 (by decide) ?_
            exact K141 0 (by decide) ls hl
      exact K6 (44) 0 (by omega) o_i hE_o_i H locs (by rw [hn_o_i]; omega) hP hD hS _ hl
    | succ n5 ih_i =>
      intro i hi_i o_i hE_o_i H locs hn_o_i hP hD hS ls hl
      have lt_i : i < 2 + sv := by omega
      refine lv_iload hx hb dL_law_53 (lv_at hl 0 rfl) ?_
      refine lv_iload_n hx hb dL_law_55 rfl (lv_at hl 1 rfl) ?_
      refine lv_icmp_ge (tgt := 84) hx hb dL_law_56 (by decide) (fun c => False.elim (nI_ge lt_i (by omega) c)) (fun _ => ?_)
      refine lv_iload_n hx hb dL_law_59 rfl (lv_at hl 2 rfl) ?_
      refine lv_if_eq (tgt := 84) hx hb dL_law_60 (by decide) (fun c => absurd c (by decide)) (fun _ => ?_)
      refine lv_aload_n hx hb dL_law_63 rfl (lv_at hl 3 rfl) ?_
      refine xmV (rest := []) ⟨hx, hb, hml, hown, hts⟩ (x_addServer l G cI cQ d o_i hE_o_i  _) (cwV 0 hts (goodUp gL_law_X4_addServer) rfl rfl rfl cd_X4_addServer ⟨Nat.le_of_ble_eq_true rfl, Nat.le_of_ble_eq_true rfl⟩) hK hP hD hS hA rfl hl.1 rfl (Nat.le_of_ble_eq_true rfl) dL_law_64 ⟨Nat.le_of_ble_eq_true rfl, Nat.le_of_ble_eq_true rfl⟩ (fun o44 H locs ho44 hP hD hS => ?_)
      have sp_ : fNewServer (eC o_i) = (nI i, sSrv (eC o_i)) ∧ WI (sSrv (eC o_i)) := by
        rcases srv_sp hE_o_i.1 with ⟨h6, em⟩ | ⟨h6, em, wm, g1, g2⟩
        · omega
        · exact ⟨by rw [em, hn_o_i], wm⟩
      have hE_o44 : EI o44 := ei_act hE_o_i (by rw [sp_.1]; exact sp_.2) ho44
      have hn_o44 : knv (eC o44) = i + 1 := by rw [ho44]; show knv (fNewServer (eC o_i)).2 = _; rw [sp_.1]; show knv (eC o_i) + 1 = _; rw [hn_o_i]
      refine lv_cvt (y := (nI i)) (congrArg Prod.fst sp_.1) ?_
      refine lv_iload hx hb dL_law_67 (lv_at hl 0 rfl) ?_
      refine lv_icmp_ne (tgt := 76) hx hb dL_law_69 (by decide) (fun c => False.elim (c rfl)) (fun _ => ?_)
      refine lv_iconst (v := 1) hx hb dL_law_72 (by decide) ?_
      refine lv_goto (tgt := 77) hx hb dL_law_73 (by decide) ?_
      refine lv_istore_n (lv' := [(2, .int 1), (4, .int (nI i)), (3, .int (nI (2 + sv))), (1, .ref (adE d)), (0, .ref bA)]) hx hb dL_law_77 rfl hl (by decide) rfl (fun ls hl => ?_)
      refine lv_iinc (v := (nI (i + 1))) (lv' := [(4, .int (nI (i + 1))), (2, .int 1), (3, .int (nI (2 + sv))), (1, .ref (adE d)), (0, .ref bA)]) hx hb dL_law_78 hl (k := 1) rfl (nI_1 i) (by decide) rfl (fun ls hl => ?_)
      refine lv_goto (tgt := 53) hx hb dL_law_81 (by decide) ?_
      exact ih_i (i + 1) (by omega) o44 hE_o44 H locs hn_o44 hP hD hS ls (lv_sub hl [0, 2, 1, 3, 4] rfl)
  exact K4 (2 + sv) 0 (by omega) o3 hE_o3 H locs hn_o3 hP hD hS _ hl
