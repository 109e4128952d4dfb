theorem wx_cl4 : Cond.classLink RL 7 RX4 ∈ lw_tbl := List.mem_of_getElem? (i := 64) (by decide +kernel)
theorem wx_i4 : Cond.instantiable RX4 6 ∈ lw_tbl := List.mem_of_getElem? (i := 65) (by decide +kernel)
theorem wx_n4 : Cond.initialized RX4 ∈ lw_tbl := List.mem_of_getElem? (i := 55) (by decide +kernel)
theorem wx_cl5 : Cond.classLink RL 10 RX5 ∈ lw_tbl := List.mem_of_getElem? (i := 594) (by decide +kernel)
theorem wx_i5 : Cond.instantiable RX5 15 ∈ lw_tbl := List.mem_of_getElem? (i := 595) (by decide +kernel)
theorem wx_n5 : Cond.initialized RX5 ∈ lw_tbl := List.mem_of_getElem? (i := 60) (by decide +kernel)
theorem wx_ml4 : Cond.methodLink RL 9 yX4_init ∈ lw_tbl := List.mem_of_getElem? (i := 66) (by decide +kernel)
theorem wx_ml5 : Cond.methodLink RL 12 yX5_init ∈ lw_tbl := List.mem_of_getElem? (i := 596) (by decide +kernel)
theorem wx_im4 : Cond.instanceMethod yX4_init ∈ lw_tbl := List.mem_of_getElem? (i := 67) (by decide +kernel)
theorem wx_im5 : Cond.instanceMethod yX5_init ∈ lw_tbl := List.mem_of_getElem? (i := 597) (by decide +kernel)
theorem wx_i0 : Cond.instantiable RX0 13 ∈ lw_tbl := List.mem_of_getElem? (i := 73) (by decide +kernel)
theorem wx_i1 : Cond.instantiable RX1 3 ∈ lw_tbl := List.mem_of_getElem? (i := 140) (by decide +kernel)
theorem wx_i2 : Cond.instantiable RX2 8 ∈ lw_tbl := List.mem_of_getElem? (i := 186) (by decide +kernel)
theorem wx_i3 : Cond.instantiable RX3 5 ∈ lw_tbl := List.mem_of_getElem? (i := 160) (by decide +kernel)
theorem wx_aI : Cond.arrayClass .int ∈ lw_tbl := List.mem_of_getElem? (i := 138) (by decide +kernel)
theorem wx_aQ : Cond.arrayOver (.object RX0) ∈ lw_tbl := List.mem_of_getElem? (i := 146) (by decide +kernel)
theorem mem_r {big : List Cond} (ws : List Cond) (ps : List Nat) (hp : ws = ps.filterMap (fun i => big[i]?)) : ∀ w ∈ ws, w ∈ big := by
  intro w hw
  rw [hp] at hw
  obtain ⟨i, _, h⟩ := List.mem_filterMap.mp hw
  exact List.mem_of_getElem? h
theorem wx_F : ∀ q ∈ nwF, Cond.fieldLinkNest q.1 q.2.1 q.2.2.1 q.2.2.2.1 q.2.2.2.2 "EvenLoads" ∈ lw_tbl := fun q hq => mem_r (nwF.map (fun q => Cond.fieldLinkNest q.1 q.2.1 q.2.2.1 q.2.2.2.1 q.2.2.2.2 "EvenLoads")) [79, 80, 82, 83, 85, 86, 88, 90, 91, 93, 95, 96, 98, 100, 101, 103, 105, 106, 108, 110, 150, 166, 168, 170, 172, 193, 195, 197, 199, 201] (by decide +kernel) _ (List.mem_map.mpr ⟨q, hq, rfl⟩)
theorem wx_M : ∀ q ∈ nwM, Cond.methodLinkNest q.1 q.2.1 q.2.2 "EvenLoads" ∈ lw_tbl := fun q hq => mem_r (nwM.map (fun q => Cond.methodLinkNest q.1 q.2.1 q.2.2 "EvenLoads")) [74, 147, 161, 187, 248, 261, 294, 398, 487, 508] (by decide +kernel) _ (List.mem_map.mpr ⟨q, hq, rfl⟩)
theorem whole_SF {s : State} {args : Array Value} (hts : ∀ w ∈ lw_tbl, w.before args s = true) : ∃ (G : va_G) (cI cQ : ClassId), SF G cI cQ s := by
  obtain ⟨c0, i0, k0⟩ := u_known hts inX0 (hts _ wx_i0)
  obtain ⟨c1, i1, k1⟩ := u_known hts inX1 (hts _ wx_i1)
  obtain ⟨c2, i2, k2⟩ := u_known hts inX2 (hts _ wx_i2)
  obtain ⟨c3, i3, k3⟩ := u_known hts inX3 (hts _ wx_i3)
  obtain ⟨c4, i4, k4⟩ := u_known hts inX4 (hts _ wx_i4)
  obtain ⟨c5, i5, k5⟩ := u_known hts inX5 (hts _ wx_i5)
  obtain ⟨cI, kI, compI, f1, f2, f3⟩ := Cond.arrayClass_spec (hts _ wx_aI)
  obtain ⟨comp, cQ, kQ, g1, g2, g3, g4, g5⟩ := Cond.arrayOver_spec (hts _ wx_aQ)
  refine ⟨(fun c => match c with | 0 => c0 | 1 => c1 | 2 => c2 | 3 => c3 | 4 => c4 | _ => c5, fun c => match c with | 0 => i0 | 1 => i1 | 2 => i2 | 3 => i3 | 4 => i4 | _ => i5), cI, cQ, ⟨⟨fun c q hq => ?_, fun k q hk => ?_⟩, ⟨fun q hq => va_Nw.of rfl (hts _ (wx_F q hq)), fun q hq => va_Nw.of rfl (hts _ (wx_M q hq))⟩⟩⟩
  · match c, hq with
    | 0, hq => cases hq; exact k0
    | 1, hq => cases hq; exact k1
    | 2, hq => cases hq; exact k2
    | 3, hq => cases hq; exact k3
    | 4, hq => cases hq; exact k4
    | 5, hq => cases hq; exact k5
    | n + 6, hq => simp [vwCl] at hq
  · match k, hk with
    | 0, hk => cases hk; exact ⟨fun n z => ⟨(fun k h => by cases h), kI, f2, compI, f3⟩, f1⟩
    | 1, hk => cases hk; exact ⟨fun n z => ⟨(fun k h => by cases h), kQ, g3, comp, g4⟩, ⟨kQ, comp, g3, g4, g1, g5⟩⟩
    | n + 2, hk => simp [tyQ] at hk
theorem fl_snoc (bs : List va_W) (w : va_W) : fl bs ++ w = fl (bs ++ [w]) := by
  induction bs with
  | nil => show w = w ++ []; rw [List.append_nil]
  | cons b bs ih => show (b ++ fl bs) ++ w = b ++ fl (bs ++ [w]); rw [List.append_assoc, ih]
theorem r_init : rR cl0 hw0 pg0 md0 := by
  have M : MI (kMs md0) (knv cl0) (knj cl0) := ⟨rfl, by decide, rfl, by decide⟩
  refine ⟨⟨⟨M, fun j hj => absurd hj (Nat.not_lt_zero j), fun k hk => ?_, fun k hk => rfl, ⟨rfl, rfl, rfl, rfl, rfl⟩⟩, ⟨fun j hj => absurd hj (Nat.not_lt_zero j), fun j hj => absurd hj (Nat.not_lt_zero j), 120, by decide, by decide, rfl⟩, ⟨M, fun i hi => absurd hi (Nat.not_lt_zero i)⟩, Or.inl rfl⟩, ⟨rfl, by decide, by decide, fun r hr => absurd hr (Nat.not_lt_zero r)⟩, ⟨rfl, by decide, fun i hi => absurd hi (Nat.not_lt_zero i)⟩⟩
  match k, hk with
  | 0, _ => exact ⟨rfl, fun _ => rfl⟩
  | 1, _ => exact ⟨rfl, fun _ => rfl⟩
  | 2, _ => exact ⟨rfl, fun _ => rfl⟩
  | 3, _ => exact ⟨rfl, fun _ => rfl⟩
  | 4, _ => exact ⟨rfl, fun _ => rfl⟩
  | 5, _ => exact ⟨rfl, fun _ => rfl⟩
  | n + 6, h => exact absurd h (by omega)

set_option maxHeartbeats 4000000 in
set_option maxRecDepth 100000 in
theorem whole_start {p : Program} {e : Env} {s : State} {m : MethodId} {below : List Frame} {meth : Method} {c : Code} (l : Launch) (hflags : l.flags = flags0) {b L : Nat} {xs : Nat → Int32} (hL : L ≤ 2048) (C0 : lw_At p s m meth c b L xs) : W p l e room_1 s m #[Value.ref b] below meth c s.heap [] 0 0 (lw_Z below #[Value.ref b] s) (entryFrame m ([Value.ref b] : List Value).toArray 4) := by
  obtain ⟨hx, hb, hr, hml, hown, hts, hX, hbl, hlocks, hgv⟩ := id C0
  have hA : ∀ k : Nat, s.heap.size ≤ k → lwA s k := fun _ h => h
  obtain ⟨G, cI, cQ, hK⟩ := whole_SF hts
  have hO : va_AO RX0 s := va_AO.of (hts _ wx_aQ)
  have hS : va_S (lwA s) s.heap s.heap [] := va_S.rf
  have hP : va_P G vwCl [] s.heap := fun k q h => by simp at h
  have hD : va_D (lwA s) [] := ⟨fun i j p q h => by simp at h, fun k q h => by simp at h⟩
  have hl := lv_entry ([.ref b]) (n := 4) (Nat.le_of_ble_eq_true rfl)
  rw [lg_entry_eq]
  generalize (lg_sl ([.ref b]) ++ List.replicate (4 - (lg_sl ([.ref b])).length) Slot.unset).toArray = ls at hl ⊢
  have hl : lv_has ls 4 [(0, .ref b)] := hl
  refine va_new (ci := 4) (fs := nu4) (C := RX4) (T := TX4) (N := 6) hx hb hts inX4 tyX4 tyX4_ok hown (hts _ wx_cl4) (hts _ wx_i4) (hts _ wx_n4) hK.1 hP hD hS hA rfl nd4 (Nat.le_of_ble_eq_true rfl) (Nat.le_of_ble_eq_true rfl) dL_law_0 (fun eo H hP hD hS => ?_)
  refine lv_dup hx hb dL_law_3 rfl ?_
  refine mcI_go (Pc := fun _ _ => True) (x := (eo, .inr (4, nu4))) (va_runI (b := eo) (As := []) (rest := [.ref eo]) ⟨hx, hb, hml, hown, hts⟩ (c_X4_init l G cI cQ eo H.size) (cwI 0 hts (goodUp gL_law_X4_init) rfl rfl rfl (hts _ wx_n4) (hts _ wx_ml4) (hts _ wx_im4) rfl cd_X4_init ⟨Nat.le_of_ble_eq_true rfl, Nat.le_of_ble_eq_true rfl⟩) (preO hK hO hP hD) rfl rfl hl.1 rfl (Nat.le_of_ble_eq_true rfl) dL_law_4 ⟨Nat.le_of_ble_eq_true rfl, Nat.le_of_ble_eq_true rfl⟩) hP hD hS hA (fun u H1 locs1 ep hP1 hD1 hS1 => ?_)
  have hP : va_P G vwCl (fl [(pgT cI u.2.2.2.2.2.2 pg0), (evT eo u.1 u.2.1 u.2.2.1 u.2.2.2.1 u.2.2.2.2.2.1 u.2.2.2.2.2.2), (hwT cI cQ u.2.2.2.1 u.2.2.2.2.1 hw0), (stT cI u.2.2.2.2.2.1 st0c), (clT cI u.1 cl0), (clT cI u.2.1 cl0), (clT cI u.2.2.1 cl0)]) H1 := hP1
  have hD : va_D (lwA s) (fl [(pgT cI u.2.2.2.2.2.2 pg0), (evT eo u.1 u.2.1 u.2.2.1 u.2.2.2.1 u.2.2.2.2.2.1 u.2.2.2.2.2.2), (hwT cI cQ u.2.2.2.1 u.2.2.2.2.1 hw0), (stT cI u.2.2.2.2.2.1 st0c), (clT cI u.1 cl0), (clT cI u.2.1 cl0), (clT cI u.2.2.1 cl0)]) := hD1
  have hS := hS1
  refine lv_astore_n (lv' := [(1, .ref eo), (0, .ref b)]) hx hb dL_law_7 rfl hl (by decide) rfl (fun ls hl => ?_)
  refine va_new (ci := 5) (fs := nu5) (C := RX5) (T := TX5) (N := 15) hx hb hts inX5 tyX5 tyX5_ok hown (hts _ wx_cl5) (hts _ wx_i5) (hts _ wx_n5) hK.1 hP hD hS hA rfl nd5 (Nat.le_of_ble_eq_true rfl) (Nat.le_of_ble_eq_true rfl) dL_law_8 (fun qv H hP hD hS => ?_)
  refine lv_dup hx hb dL_law_11 rfl ?_
  refine mcI_go (Pc := fun _ _ => True) (x := (qv, .inr (5, nu5))) (va_runI (b := qv) (As := []) (rest := [.ref qv]) ⟨hx, hb, hml, hown, hts⟩ (c_X5_init l G cI cQ qv H.size) (cwI 0 hts (goodUp gL_law_X5_init) rfl rfl rfl (hts _ wx_n5) (hts _ wx_ml5) (hts _ wx_im5) rfl cd_X5_init ⟨Nat.le_of_ble_eq_true rfl, Nat.le_of_ble_eq_true rfl⟩) (preM hK hP hD) rfl rfl hl.1 rfl (Nat.le_of_ble_eq_true rfl) dL_law_12 ⟨Nat.le_of_ble_eq_true rfl, Nat.le_of_ble_eq_true rfl⟩) hP hD hS hA (fun q H1 locs1 ep hP2 hD2 hS2 => ?_)
  rw [fl_snoc] at hP2 hD2
  have ep : q 0 = qv := ep
  have hP : va_P G vwCl (fl (LW cI cQ eo u.1 u.2.1 u.2.2.1 u.2.2.2.1 u.2.2.2.2.1 u.2.2.2.2.2.1 u.2.2.2.2.2.2 q cl0 cl0 cl0 hw0 st0c pg0 md0)) H1 := hP2
  have hD : va_D (lwA s) (fl (LW cI cQ eo u.1 u.2.1 u.2.2.1 u.2.2.2.1 u.2.2.2.2.1 u.2.2.2.2.2.1 u.2.2.2.2.2.2 q cl0 cl0 cl0 hw0 st0c pg0 md0)) := hD2
  have hS := hS2
  refine lv_astore_n (lv' := [(2, .ref qv), (1, .ref eo), (0, .ref b)]) hx hb dL_law_15 rfl hl (by decide) rfl (fun ls hl => ?_)
  refine lv_iconst (v := 0) hx hb dL_law_16 (by decide) ?_
  refine lv_cvt (x := 0) (y := nI 0) rfl ?_
  refine lv_istore_n (lv' := [(3, .int (nI 0)), (2, .ref qv), (1, .ref eo), (0, .ref b)]) hx hb dL_law_17 rfl hl (by decide) rfl (fun ls hl => ?_)
  exact law_loop hL C0 hK (L + 1) 0 (Nat.zero_le _) (by omega) _ _ _ _ _ _ _ _ _ r_init hP hD hS ls (by rw [ep]; exact hl)
