theorem wx_cl4 : Cond.classLink RL 14 RX4 ∈ lw_tbl := List.mem_of_getElem? (i := 16) (by decide +kernel)
theorem wx_i4 : Cond.instantiable RX4 6 ∈ lw_tbl := List.mem_of_getElem? (i := 17) (by decide +kernel)
theorem wx_n4 : Cond.initialized RX4 ∈ lw_tbl := List.mem_of_getElem? (i := 8) (by decide +kernel)
theorem wx_ml4 : Cond.methodLink RL 89 yX4_init ∈ lw_tbl := List.mem_of_getElem? (i := 18) (by decide +kernel)
theorem wx_im4 : Cond.instanceMethod yX4_init ∈ lw_tbl := List.mem_of_getElem? (i := 19) (by decide +kernel)
theorem wx_i0 : Cond.instantiable RX0 13 ∈ lw_tbl := List.mem_of_getElem? (i := 25) (by decide +kernel)
theorem wx_i1 : Cond.instantiable RX1 3 ∈ lw_tbl := List.mem_of_getElem? (i := 92) (by decide +kernel)
theorem wx_i2 : Cond.instantiable RX2 8 ∈ lw_tbl := List.mem_of_getElem? (i := 138) (by decide +kernel)
theorem wx_i3 : Cond.instantiable RX3 5 ∈ lw_tbl := List.mem_of_getElem? (i := 112) (by decide +kernel)
theorem wx_aI : Cond.arrayClass .int ∈ lw_tbl := List.mem_of_getElem? (i := 90) (by decide +kernel)
theorem wx_aQ : Cond.arrayOver (.object RX0) ∈ lw_tbl := List.mem_of_getElem? (i := 98) (by decide +kernel)
theorem mem_r {big : List Cond} (ws : List Cond) (ps : List Nat) (hp : ws = ps.filterMap (fun i => big[i]?)) : ∀ w ∈ ws, w ∈ big := by
  intro w hw
  rw [hp] at hw
  obtain ⟨i, _, h⟩ := List.mem_filterMap.mp hw
  exact List.mem_of_getElem? h
theorem wx_F : ∀ q ∈ nwF, Cond.fieldLinkNest q.1 q.2.1 q.2.2.1 q.2.2.2.1 q.2.2.2.2 "EvenLoads" ∈ lw_tbl := fun q hq => mem_r (nwF.map (fun q => Cond.fieldLinkNest q.1 q.2.1 q.2.2.1 q.2.2.2.1 q.2.2.2.2 "EvenLoads")) [31, 32, 34, 35, 37, 38, 40, 42, 43, 45, 47, 48, 50, 52, 53, 55, 57, 58, 60, 62, 102, 118, 120, 122, 124, 145] (by decide +kernel) _ (List.mem_map.mpr ⟨q, hq, rfl⟩)
theorem wx_M : ∀ q ∈ nwM, Cond.methodLinkNest q.1 q.2.1 q.2.2 "EvenLoads" ∈ lw_tbl := fun q hq => mem_r (nwM.map (fun q => Cond.methodLinkNest q.1 q.2.1 q.2.2 "EvenLoads")) [26, 99, 113, 139, 196, 209, 250, 273] (by decide +kernel) _ (List.mem_map.mpr ⟨q, hq, rfl⟩)
theorem whole_SF {s : State} {args : Array Value} (hts : ∀ w ∈ lw_tbl, w.before args s = true) : ∃ (G : va_G) (cI cQ : ClassId), SF G cI cQ s := by
  obtain ⟨c0, i0, k0⟩ := u_known hts inX0 (hts _ wx_i0)
  obtain ⟨c1, i1, k1⟩ := u_known hts inX1 (hts _ wx_i1)
  obtain ⟨c2, i2, k2⟩ := u_known hts inX2 (hts _ wx_i2)
  obtain ⟨c3, i3, k3⟩ := u_known hts inX3 (hts _ wx_i3)
  obtain ⟨c4, i4, k4⟩ := u_known hts inX4 (hts _ wx_i4)
  obtain ⟨cI, kI, compI, f1, f2, f3⟩ := Cond.arrayClass_spec (hts _ wx_aI)
  obtain ⟨comp, cQ, kQ, g1, g2, g3, g4, g5⟩ := Cond.arrayOver_spec (hts _ wx_aQ)
  refine ⟨(fun c => match c with | 0 => c0 | 1 => c1 | 2 => c2 | 3 => c3 | _ => c4, fun c => match c with | 0 => i0 | 1 => i1 | 2 => i2 | 3 => i3 | _ => i4), cI, cQ, ⟨⟨fun c q hq => ?_, fun k q hk => ?_⟩, ⟨fun q hq => va_Nw.of rfl (hts _ (wx_F q hq)), fun q hq => va_Nw.of rfl (hts _ (wx_M q hq))⟩⟩⟩
  · match c, hq with
    | 0, hq => cases hq; exact k0
    | 1, hq => cases hq; exact k1
    | 2, hq => cases hq; exact k2
    | 3, hq => cases hq; exact k3
    | 4, hq => cases hq; exact k4
    | n + 5, hq => simp [vwCl] at hq
  · match k, hk with
    | 0, hk => cases hk; exact ⟨fun n z => ⟨(fun k h => by cases h), kI, f2, compI, f3⟩, f1⟩
    | 1, hk => cases hk; exact ⟨fun n z => ⟨(fun k h => by cases h), kQ, g3, comp, g4⟩, ⟨kQ, comp, g3, g4, g1, g5⟩⟩
    | n + 2, hk => simp [tyQ] at hk
set_option maxHeartbeats 4000000 in
set_option maxRecDepth 100000 in
theorem whole_start {p : Program} {e : Env} {s : State} {m : MethodId} {below : List Frame} {meth : Method} {c : Code} (l : Launch) (hflags : l.flags = flags0) {b L : Nat} {xs : Nat → Int32} (hL : L ≤ 260) (C0 : lw_At p s m meth c b L xs) : W p l e room_1 s m #[Value.ref b] below meth c s.heap [] 0 0 (lw_Z below #[Value.ref b] s) (entryFrame m ([Value.ref b] : List Value).toArray 9) := by
  obtain ⟨hx, hb, hr, hml, hown, hts, hX, hbl, hlocks, hgv⟩ := id C0
  have hA : ∀ k : Nat, s.heap.size ≤ k → lwA s k := fun _ h => h
  obtain ⟨G, cI, cQ, hK⟩ := whole_SF hts
  have hO : va_AO RX0 s := va_AO.of (hts _ wx_aQ)
  have hS : va_S (lwA s) s.heap s.heap [] := va_S.rf
  have hP : va_P G vwCl [] s.heap := fun k q h => by simp at h
  have hD : va_D (lwA s) [] := ⟨fun i j p q h => by simp at h, fun k q h => by simp at h⟩
  have hl := lv_entry ([.ref b]) (n := 9) (Nat.le_of_ble_eq_true rfl)
  rw [lg_entry_eq]
  generalize (lg_sl ([.ref b]) ++ List.replicate (9 - (lg_sl ([.ref b])).length) Slot.unset).toArray = ls at hl ⊢
  have hl : lv_has ls 9 [(0, .ref b)] := hl
  refine va_new (ci := 4) (fs := nu4) (C := RX4) (T := TX4) (N := 6) hx hb hts inX4 tyX4 tyX4_ok hown (hts _ wx_cl4) (hts _ wx_i4) (hts _ wx_n4) hK.1 hP hD hS hA rfl nd4 (Nat.le_of_ble_eq_true rfl) (Nat.le_of_ble_eq_true rfl) dL_law_0 (fun eo H hP hD hS => ?_)
  refine lv_dup hx hb dL_law_3 rfl ?_
  refine mcI_go (Pc := fun _ _ => True) (x := (eo, .inr (4, nu4))) (va_runI (b := eo) (As := []) (rest := [.ref eo]) ⟨hx, hb, hml, hown, hts⟩ (c_X4_init l G cI cQ eo H.size) (cwI 0 hts (goodUp gL_law_X4_init) rfl rfl rfl (hts _ wx_n4) (hts _ wx_ml4) (hts _ wx_im4) rfl cd_X4_init ⟨Nat.le_of_ble_eq_true rfl, Nat.le_of_ble_eq_true rfl⟩) (preO hK hO hP hD) rfl rfl hl.1 rfl (Nat.le_of_ble_eq_true rfl) dL_law_4 ⟨Nat.le_of_ble_eq_true rfl, Nat.le_of_ble_eq_true rfl⟩) hP hD hS hA (fun u H1 locs1 ep hP1 hD1 hS1 => ?_)
  refine lv_astore_n (lv' := [(1, .ref eo), (0, .ref b)]) hx hb dL_law_7 rfl hl (by decide) rfl (fun ls hl => ?_)
  exact law_body (d := (eo, u.1, u.2.1, u.2.2.1, u.2.2.2.1, u.2.2.2.2.1, u.2.2.2.2.2.1, u.2.2.2.2.2.2)) hL C0 hK H1 locs1 hP1 hD1 hS1 ls hl
