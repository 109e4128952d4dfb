theorem cell_congq {f g : Nat → Option Nat} {n : Nat} (h : ∀ j, j < n → f j = g j) (cA : ClassId) : vp_cell cA (n, .inr (.inr (.inr (.inr f)))) = vp_cell cA (n, .inr (.inr (.inr (.inr g)))) := by
  show arrV cA n (fun j => va_rf (f j)) = arrV cA n (fun j => va_rf (g j))
  have e : (fun j : Fin n => va_rf (f j.val)) = fun j : Fin n => va_rf (g j.val) := funext fun j => by rw [h j.val j.isLt]
  unfold arrV
  simp only [e]
theorem va_P.arrq {G : va_G} {cl : List vw_C} {ws : va_W} {H : Heap} (hP : va_P G cl ws H) (k : Nat) {a : Nat} {cA : ClassId} {n : Nat} {f g : Nat → Option Nat} (he : ws[k]? = some (a, .inl (cA, n, .inr (.inr (.inr (.inr f)))))) (h : ∀ j, j < n → f j = g j) : va_P G cl (ws.set k (a, .inl (cA, n, .inr (.inr (.inr (.inr g)))))) H := by
  intro i q hq
  by_cases e : k = i
  · subst e
    rw [List.getElem?_set] at hq
    have hlt : k < ws.length := (List.getElem?_eq_some_iff.mp he).1
    simp only [if_true, hlt] at hq
    cases hq
    have h0 := hP k _ he
    show H[a]? = some (vp_cell cA (n, .inr (.inr (.inr (.inr g)))))
    rw [← cell_congq h cA]
    exact h0
  · rw [List.getElem?_set_ne e] at hq
    exact hP i q hq
abbrev hw0 : HW := ((0, 0), fun _ => cl0)
theorem cd_X0_init : yX0_init.cls ≠ "java/lang/invoke/MethodHandle" ∧ yX0_init.cls ≠ "java/lang/invoke/VarHandle" ∧ (parseMethodDescriptor yX0_init.desc).map (fun d => d.parameters.length) = some 0 := by decide +kernel
theorem cd_X1_init : yX1_init.cls ≠ "java/lang/invoke/MethodHandle" ∧ yX1_init.cls ≠ "java/lang/invoke/VarHandle" ∧ (parseMethodDescriptor yX1_init.desc).map (fun d => d.parameters.length) = some 0 := by decide +kernel
theorem cd_X2_init : yX2_init.cls ≠ "java/lang/invoke/MethodHandle" ∧ yX2_init.cls ≠ "java/lang/invoke/VarHandle" ∧ (parseMethodDescriptor yX2_init.desc).map (fun d => d.parameters.length) = some 0 := by decide +kernel
theorem cd_X3_init : yX3_init.cls ≠ "java/lang/invoke/MethodHandle" ∧ yX3_init.cls ≠ "java/lang/invoke/VarHandle" ∧ (parseMethodDescriptor yX3_init.desc).map (fun d => d.parameters.length) = some 0 := by decide +kernel
theorem cd_X4_init : yX4_init.cls ≠ "java/lang/invoke/MethodHandle" ∧ yX4_init.cls ≠ "java/lang/invoke/VarHandle" ∧ (parseMethodDescriptor yX4_init.desc).map (fun d => d.parameters.length) = some 0 := by decide +kernel
theorem in_X1i_0 : ∀ w ∈ wsX00, w ∈ wsX1_init := by decide +kernel
theorem in_X1i_1 : ∀ w ∈ wsX10, w ∈ wsX1_init := by decide +kernel
theorem in_X4i_0 : ∀ w ∈ wsX00, w ∈ wsX4_init := by decide +kernel
theorem in_X4i_1 : ∀ w ∈ wsX10, w ∈ wsX4_init := by decide +kernel
theorem in_X4i_2 : ∀ w ∈ wsX20, w ∈ wsX4_init := by decide +kernel
theorem in_X4i_3 : ∀ w ∈ wsX30, w ∈ wsX4_init := by decide +kernel
theorem in_X4i_4 : ∀ w ∈ wsX40, w ∈ wsX4_init := by decide +kernel
abbrev nu0 : List Value := [.null, .null, .null, .null, .null, .null, .int 0, .int 0, .int 0, .int 0, .int 0, .int 0, .int 0]
abbrev nu1 : List Value := [.null, .int 0, .int 0]
abbrev nu2 : List Value := [.null, .int 0, .int 0, .int 0, .int 0, .null, .int 0, .int 0]
abbrev nu3 : List Value := [.int 0, .int 0, .int 0, .int 0, .int 0]
abbrev nu4 : List Value := [.null, .null, .null, .null, .null, .null]
abbrev nu5 : List Value := [.null, .null, .null, .int 0, .int 0, .int 0, .int 0, .int 0, .null, .int 0, .int 0, .int 0, .null, .null, .int 0]
theorem nd0 : ∀ j, j < 13 → defaultValue (tyX0 j) = vp_V nu0 j := by decide +kernel
theorem nd1 : ∀ j, j < 3 → defaultValue (tyX1 j) = vp_V nu1 j := by decide +kernel
theorem nd2 : ∀ j, j < 8 → defaultValue (tyX2 j) = vp_V nu2 j := by decide +kernel
theorem nd3 : ∀ j, j < 5 → defaultValue (tyX3 j) = vp_V nu3 j := by decide +kernel
theorem nd4 : ∀ j, j < 6 → defaultValue (tyX4 j) = vp_V nu4 j := by decide +kernel
set_option maxHeartbeats 4000000 in
set_option maxRecDepth 100000 in
theorem c_X1_init (l : Launch) (G : va_G) (cI cQ : ClassId) (a : Nat) (sz0 : Nat) : Met l yX1_init wsX1_init ({ frames := 2, cells := 36, slots := 610, locals := 32 } : Room) (oPc G cI cQ [.ref a] [(a, .inr (1, nu1))] sz0) (va_Qv (fun u : (Nat → Nat) × (Nat → Nat → Nat) => u.1 0 = a) (mB G (va_A [(a, .inr (1, nu1))] sz0) (fun u => hwT cI cQ u.1 u.2 hw0)) (va_A [(a, .inr (1, nu1))] sz0)) 36 610 (va_A [(a, .inr (1, nu1))] sz0) := by
  refine co_of (cc := cX1_init) (maxL := 2) (own := RX1) (by decide) rfl rfl (Nat.le_of_ble_eq_true rfl) rfl rfl ?_
  intro p e s m below meth cd ls A hx hb hr hts hown hlocks hml hin hA hK hO hP hD hS hl
  refine lv_aload_n hx hb dX1_init_0 rfl (lv_at hl 0 rfl) ?_
  refine W.objInit hx hb hown (hts (.methodLink RX1 3 objectInit) (by decide +kernel)) (hts (.instanceMethod objectInit) (by decide +kernel)) (hts (.code objectInit ⟨#[0xb1]⟩ 1 none) (by decide +kernel)) rfl (by rw [hml]; exact hl.1) rfl dX1_init_1 (Nat.le_of_ble_eq_true rfl) (Nat.le_of_ble_eq_true rfl) ?_
  refine lv_aload_n hx hb dX1_init_4 rfl (lv_at hl 0 rfl) ?_
  refine lv_iconst (v := 5) hx hb dX1_init_5 (by decide) ?_
  refine va_newq (N' := 5) hx hb hown (hts (.classLink RX1 9 RX0) (by decide +kernel)) hO hK.1 hP hD hS hA (by decide) (by decide) (by decide) (Nat.le_of_ble_eq_true rfl) (Nat.le_of_ble_eq_true rfl) dX1_init_6 (fun q1 cA H hK2 hP hD hS => ?_)
  have e9 : cA = cQ := by
    obtain ⟨k1, p1, a1, a2, a3, a4⟩ := (hK2.2 2 _ rfl).2
    obtain ⟨k2, p2, b1, b2, b3, b4⟩ := (hK.1.2 1 _ rfl).2
    exact Option.some.inj (a4.symm.trans b4)
  have e9 := e9.symm
  subst e9
  have hP : va_P G vwCl ([(a, .inr (1, [.null, .int 0, .int 0])), (q1, .inl (cQ, 5, .inr (.inr (.inr (.inr (fun _ => none))))))]) _ := hP
  have hD : va_D A ([(a, .inr (1, [.null, .int 0, .int 0])), (q1, .inl (cQ, 5, .inr (.inr (.inr (.inr (fun _ => none))))))]) := hD
  refine va_putF (D := G) (ci := 1) (v := .ref q1) (ty := .array (.object RX0)) (C := RX1) (T := TX1) (N := 3) hx hb hts in_X1i_1 tyX1 tyX1_ok nmX1 hown hK.1 hP hD hS 0 rfl rfl 0 (by decide) (hts (.fieldLink RX1 11 "EvenLoads$History" "states" "[LEvenLoads$Cluster;") (by decide +kernel)) (fun _ h9 => h9) rfl hin rfl (by decide +kernel) rfl rfl (Nat.le_of_ble_eq_true rfl) dX1_init_9 (fun H locs hP hD hS => ?_)
  have hP : va_P G vwCl ([(a, .inr (1, [.ref q1, .int 0, .int 0])), (q1, .inl (cQ, 5, .inr (.inr (.inr (.inr (fun _ => none))))))]) _ := hP
  have hD : va_D A ([(a, .inr (1, [.ref q1, .int 0, .int 0])), (q1, .inl (cQ, 5, .inr (.inr (.inr (.inr (fun _ => none))))))]) := hD
  refine lv_aload_n hx hb dX1_init_12 rfl (lv_at hl 0 rfl) ?_
  refine lv_iconst (v := 0) hx hb dX1_init_13 (by decide) ?_
  refine va_put (D := G) (ci := 1) (v := .int 0) (ty := .int) (C := RX1) (T := TX1) (N := 3) hx hb hts in_X1i_1 tyX1 tyX1_ok nmX1 hown hK.1 hP hD hS 0 rfl rfl 1 (by decide) (hts (.fieldLink RX1 17 "EvenLoads$History" "depth" "I") (by decide +kernel)) (fun _ h9 => h9) rfl (by decide +kernel) rfl rfl (Nat.le_of_ble_eq_true rfl) dX1_init_14 (fun H locs hP hD hS => ?_)
  have hP : va_P G vwCl ([(a, .inr (1, [.ref q1, .int 0, .int 0])), (q1, .inl (cQ, 5, .inr (.inr (.inr (.inr (fun _ => none))))))]) _ := hP
  have hD : va_D A ([(a, .inr (1, [.ref q1, .int 0, .int 0])), (q1, .inl (cQ, 5, .inr (.inr (.inr (.inr (fun _ => none))))))]) := hD
  refine lv_aload_n hx hb dX1_init_17 rfl (lv_at hl 0 rfl) ?_
  refine lv_iconst (v := 0) hx hb dX1_init_18 (by decide) ?_
  refine va_put (D := G) (ci := 1) (v := .int 0) (ty := .int) (C := RX1) (T := TX1) (N := 3) hx hb hts in_X1i_1 tyX1 tyX1_ok nmX1 hown hK.1 hP hD hS 0 rfl rfl 2 (by decide) (hts (.fieldLink RX1 21 "EvenLoads$History" "free" "I") (by decide +kernel)) (fun _ h9 => h9) rfl (by decide +kernel) rfl rfl (Nat.le_of_ble_eq_true rfl) dX1_init_19 (fun H locs hP hD hS => ?_)
  have hP : va_P G vwCl ([(a, .inr (1, [.ref q1, .int 0, .int 0])), (q1, .inl (cQ, 5, .inr (.inr (.inr (.inr (fun _ => none))))))]) _ := hP
  have hD : va_D A ([(a, .inr (1, [.ref q1, .int 0, .int 0])), (q1, .inl (cQ, 5, .inr (.inr (.inr (.inr (fun _ => none))))))]) := hD
  refine lv_iconst (v := 0) hx hb dX1_init_22 (by decide) ?_
  refine lv_istore_n (lv' := [(1, .int 0), (0, .ref a)]) hx hb dX1_init_23 rfl hl (by decide) rfl (fun ls hl => ?_)
  refine lv_iload_n hx hb dX1_init_24 rfl (lv_at hl 0 rfl) ?_
  refine lv_aload_n hx hb dX1_init_25 rfl (lv_at hl 1 rfl) ?_
  refine va_get (D := G) (ci := 1) (v := .ref q1) (C := RX1) (T := TX1) (N := 3) hx hb hts in_X1i_1 hown hK.1 hP 0 rfl rfl 0 (by decide) (hts (.fieldLink RX1 11 "EvenLoads$History" "states" "[LEvenLoads$Cluster;") (by decide +kernel)) (fun _ h9 => h9) rfl dX1_init_26 ?_
  refine va_alen (v := 5) hx hb hK.1 hP 1 1 rfl rfl rfl dX1_init_29 ?_
  refine lv_icmp_ge (tgt := 52) hx hb dX1_init_30 rfl (fun c9 => absurd c9 (by decide)) (fun _ => ?_)
  refine lv_aload_n hx hb dX1_init_33 rfl (lv_at hl 1 rfl) ?_
  refine va_get (D := G) (ci := 1) (v := .ref q1) (C := RX1) (T := TX1) (N := 3) hx hb hts in_X1i_1 hown hK.1 hP 0 rfl rfl 0 (by decide) (hts (.fieldLink RX1 11 "EvenLoads$History" "states" "[LEvenLoads$Cluster;") (by decide +kernel)) (fun _ h9 => h9) rfl dX1_init_34 ?_
  refine lv_iload_n hx hb dX1_init_37 rfl (lv_at hl 0 rfl) ?_
  refine va_new (ci := 0) (fs := nu0) (C := RX0) (T := TX0) (N := 13) hx hb hts in_X1i_0 tyX0 tyX0_ok hown (hts (.classLink RX1 9 RX0) (by decide +kernel)) (hts (.instantiable RX0 13) (by decide +kernel)) (hts (.initialized RX0) (by decide +kernel)) hK.1 hP hD hS hA rfl nd0 (Nat.le_of_ble_eq_true rfl) (Nat.le_of_ble_eq_true rfl) dX1_init_38 (fun v0 H hP hD hS => ?_)
  refine lv_dup hx hb dX1_init_41 rfl ?_
  refine mcI_go (Pc := fun _ _ => True) (x := (v0, .inr (0, nu0))) (va_runIN (b := v0) (As := []) (rest := [.ref v0, .int 0, .ref q1]) ⟨hx, hb, hml, hown, hts⟩ (c_X0_init l G cI cQ v0 H.size) ⟨va_cnB 0 hts gX1_init_X0_init_n24 rfl rfl rfl (hK.2.m 1 rfl) (hts (.initialized RX0) (by decide +kernel)) cd_X0_init ⟨Nat.le_of_ble_eq_true rfl, Nat.le_of_ble_eq_true rfl⟩, rfl, hts (.instanceMethod yX0_init) (by decide +kernel)⟩ (preM hK hP hD) rfl rfl hl.1 rfl (Nat.le_of_ble_eq_true rfl) dX1_init_42 ⟨Nat.le_of_ble_eq_true rfl, Nat.le_of_ble_eq_true rfl⟩) hP hD hS hA (fun h0 H1 locs1 ep hP1 hD1 hS1 => ?_)
  subst ep
  have hP := hP1
  have hD := hD1
  have hS := hS1
  have hP : va_P G vwCl ([(a, .inr (1, [.ref q1, .int 0, .int 0])), (q1, .inl (cQ, 5, .inr (.inr (.inr (.inr (fun _ => none))))))] ++ clT cI h0 cl0) _ := hP
  have hD : va_D A ([(a, .inr (1, [.ref q1, .int 0, .int 0])), (q1, .inl (cQ, 5, .inr (.inr (.inr (.inr (fun _ => none))))))] ++ clT cI h0 cl0) := hD
  refine va_astq hx hb hK.1 hP hD hS 1 1 2 0 rfl rfl rfl rfl (show vp_in (nI 0) 5 from vp_in_nI (by decide) (by decide)) dX1_init_45 (fun H locs hP hD hS => ?_)
  have hP : va_P G vwCl ([(a, .inr (1, [.ref q1, .int 0, .int 0])), (q1, .inl (cQ, 5, .inr (.inr (.inr (.inr (va_up (fun _ => none) 0 (some (h0 0))))))))] ++ clT cI h0 cl0) _ := hP
  have hD : va_D A ([(a, .inr (1, [.ref q1, .int 0, .int 0])), (q1, .inl (cQ, 5, .inr (.inr (.inr (.inr (va_up (fun _ => none) 0 (some (h0 0))))))))] ++ clT cI h0 cl0) := hD
  refine lv_iinc (v := 1) (lv' := [(1, .int 1), (0, .ref a)]) hx hb dX1_init_46 hl (k := 0) rfl (by decide) (by decide) rfl (fun ls hl => ?_)
  refine lv_goto (tgt := 24) hx hb dX1_init_49 rfl ?_
  refine lv_iload_n hx hb dX1_init_24 rfl (lv_at hl 0 rfl) ?_
  refine lv_aload_n hx hb dX1_init_25 rfl (lv_at hl 1 rfl) ?_
  refine va_get (D := G) (ci := 1) (v := .ref q1) (C := RX1) (T := TX1) (N := 3) hx hb hts in_X1i_1 hown hK.1 hP 0 rfl rfl 0 (by decide) (hts (.fieldLink RX1 11 "EvenLoads$History" "states" "[LEvenLoads$Cluster;") (by decide +kernel)) (fun _ h9 => h9) rfl dX1_init_26 ?_
  refine va_alen (v := 5) hx hb hK.1 hP 1 1 rfl rfl rfl dX1_init_29 ?_
  refine lv_icmp_ge (tgt := 52) hx hb dX1_init_30 rfl (fun c9 => absurd c9 (by decide)) (fun _ => ?_)
  refine lv_aload_n hx hb dX1_init_33 rfl (lv_at hl 1 rfl) ?_
  refine va_get (D := G) (ci := 1) (v := .ref q1) (C := RX1) (T := TX1) (N := 3) hx hb hts in_X1i_1 hown hK.1 hP 0 rfl rfl 0 (by decide) (hts (.fieldLink RX1 11 "EvenLoads$History" "states" "[LEvenLoads$Cluster;") (by decide +kernel)) (fun _ h9 => h9) rfl dX1_init_34 ?_
  refine lv_iload_n hx hb dX1_init_37 rfl (lv_at hl 0 rfl) ?_
  refine va_new (ci := 0) (fs := nu0) (C := RX0) (T := TX0) (N := 13) hx hb hts in_X1i_0 tyX0 tyX0_ok hown (hts (.classLink RX1 9 RX0) (by decide +kernel)) (hts (.instantiable RX0 13) (by decide +kernel)) (hts (.initialized RX0) (by decide +kernel)) hK.1 hP hD hS hA rfl nd0 (Nat.le_of_ble_eq_true rfl) (Nat.le_of_ble_eq_true rfl) dX1_init_38 (fun v1 H hP hD hS => ?_)
  refine lv_dup hx hb dX1_init_41 rfl ?_
  refine mcI_go (Pc := fun _ _ => True) (x := (v1, .inr (0, nu0))) (va_runIN (b := v1) (As := []) (rest := [.ref v1, .int 1, .ref q1]) ⟨hx, hb, hml, hown, hts⟩ (c_X0_init l G cI cQ v1 H.size) ⟨va_cnB 0 hts gX1_init_X0_init_n24 rfl rfl rfl (hK.2.m 1 rfl) (hts (.initialized RX0) (by decide +kernel)) cd_X0_init ⟨Nat.le_of_ble_eq_true rfl, Nat.le_of_ble_eq_true rfl⟩, rfl, hts (.instanceMethod yX0_init) (by decide +kernel)⟩ (preM hK hP hD) rfl rfl hl.1 rfl (Nat.le_of_ble_eq_true rfl) dX1_init_42 ⟨Nat.le_of_ble_eq_true rfl, Nat.le_of_ble_eq_true rfl⟩) hP hD hS hA (fun h1 H1 locs1 ep hP1 hD1 hS1 => ?_)
  subst ep
  have hP := hP1
  have hD := hD1
  have hS := hS1
  have hP : va_P G vwCl ([(a, .inr (1, [.ref q1, .int 0, .int 0])), (q1, .inl (cQ, 5, .inr (.inr (.inr (.inr (va_up (fun _ => none) 0 (some (h0 0))))))))] ++ clT cI h0 cl0 ++ clT cI h1 cl0) _ := hP
  have hD : va_D A ([(a, .inr (1, [.ref q1, .int 0, .int 0])), (q1, .inl (cQ, 5, .inr (.inr (.inr (.inr (va_up (fun _ => none) 0 (some (h0 0))))))))] ++ clT cI h0 cl0 ++ clT cI h1 cl0) := hD
  refine va_astq hx hb hK.1 hP hD hS 1 1 9 0 rfl rfl rfl rfl (show vp_in (nI 1) 5 from vp_in_nI (by decide) (by decide)) dX1_init_45 (fun H locs hP hD hS => ?_)
  have hP : va_P G vwCl ([(a, .inr (1, [.ref q1, .int 0, .int 0])), (q1, .inl (cQ, 5, .inr (.inr (.inr (.inr (va_up (va_up (fun _ => none) 0 (some (h0 0))) 1 (some (h1 0))))))))] ++ clT cI h0 cl0 ++ clT cI h1 cl0) _ := hP
  have hD : va_D A ([(a, .inr (1, [.ref q1, .int 0, .int 0])), (q1, .inl (cQ, 5, .inr (.inr (.inr (.inr (va_up (va_up (fun _ => none) 0 (some (h0 0))) 1 (some (h1 0))))))))] ++ clT cI h0 cl0 ++ clT cI h1 cl0) := hD
  refine lv_iinc (v := 2) (lv' := [(1, .int 2), (0, .ref a)]) hx hb dX1_init_46 hl (k := 0) rfl (by decide) (by decide) rfl (fun ls hl => ?_)
  refine lv_goto (tgt := 24) hx hb dX1_init_49 rfl ?_
  refine lv_iload_n hx hb dX1_init_24 rfl (lv_at hl 0 rfl) ?_
  refine lv_aload_n hx hb dX1_init_25 rfl (lv_at hl 1 rfl) ?_
  refine va_get (D := G) (ci := 1) (v := .ref q1) (C := RX1) (T := TX1) (N := 3) hx hb hts in_X1i_1 hown hK.1 hP 0 rfl rfl 0 (by decide) (hts (.fieldLink RX1 11 "EvenLoads$History" "states" "[LEvenLoads$Cluster;") (by decide +kernel)) (fun _ h9 => h9) rfl dX1_init_26 ?_
  refine va_alen (v := 5) hx hb hK.1 hP 1 1 rfl rfl rfl dX1_init_29 ?_
  refine lv_icmp_ge (tgt := 52) hx hb dX1_init_30 rfl (fun c9 => absurd c9 (by decide)) (fun _ => ?_)
  refine lv_aload_n hx hb dX1_init_33 rfl (lv_at hl 1 rfl) ?_
  refine va_get (D := G) (ci := 1) (v := .ref q1) (C := RX1) (T := TX1) (N := 3) hx hb hts in_X1i_1 hown hK.1 hP 0 rfl rfl 0 (by decide) (hts (.fieldLink RX1 11 "EvenLoads$History" "states" "[LEvenLoads$Cluster;") (by decide +kernel)) (fun _ h9 => h9) rfl dX1_init_34 ?_
  refine lv_iload_n hx hb dX1_init_37 rfl (lv_at hl 0 rfl) ?_
  refine va_new (ci := 0) (fs := nu0) (C := RX0) (T := TX0) (N := 13) hx hb hts in_X1i_0 tyX0 tyX0_ok hown (hts (.classLink RX1 9 RX0) (by decide +kernel)) (hts (.instantiable RX0 13) (by decide +kernel)) (hts (.initialized RX0) (by decide +kernel)) hK.1 hP hD hS hA rfl nd0 (Nat.le_of_ble_eq_true rfl) (Nat.le_of_ble_eq_true rfl) dX1_init_38 (fun v2 H hP hD hS => ?_)
  refine lv_dup hx hb dX1_init_41 rfl ?_
  refine mcI_go (Pc := fun _ _ => True) (x := (v2, .inr (0, nu0))) (va_runIN (b := v2) (As := []) (rest := [.ref v2, .int 2, .ref q1]) ⟨hx, hb, hml, hown, hts⟩ (c_X0_init l G cI cQ v2 H.size) ⟨va_cnB 0 hts gX1_init_X0_init_n24 rfl rfl rfl (hK.2.m 1 rfl) (hts (.initialized RX0) (by decide +kernel)) cd_X0_init ⟨Nat.le_of_ble_eq_true rfl, Nat.le_of_ble_eq_true rfl⟩, rfl, hts (.instanceMethod yX0_init) (by decide +kernel)⟩ (preM hK hP hD) rfl rfl hl.1 rfl (Nat.le_of_ble_eq_true rfl) dX1_init_42 ⟨Nat.le_of_ble_eq_true rfl, Nat.le_of_ble_eq_true rfl⟩) hP hD hS hA (fun h2 H1 locs1 ep hP1 hD1 hS1 => ?_)
  subst ep
  have hP := hP1
  have hD := hD1
  have hS := hS1
  have hP : va_P G vwCl ([(a, .inr (1, [.ref q1, .int 0, .int 0])), (q1, .inl (cQ, 5, .inr (.inr (.inr (.inr (va_up (va_up (fun _ => none) 0 (some (h0 0))) 1 (some (h1 0))))))))] ++ clT cI h0 cl0 ++ clT cI h1 cl0 ++ clT cI h2 cl0) _ := hP
  have hD : va_D A ([(a, .inr (1, [.ref q1, .int 0, .int 0])), (q1, .inl (cQ, 5, .inr (.inr (.inr (.inr (va_up (va_up (fun _ => none) 0 (some (h0 0))) 1 (some (h1 0))))))))] ++ clT cI h0 cl0 ++ clT cI h1 cl0 ++ clT cI h2 cl0) := hD
  refine va_astq hx hb hK.1 hP hD hS 1 1 16 0 rfl rfl rfl rfl (show vp_in (nI 2) 5 from vp_in_nI (by decide) (by decide)) dX1_init_45 (fun H locs hP hD hS => ?_)
  have hP : va_P G vwCl ([(a, .inr (1, [.ref q1, .int 0, .int 0])), (q1, .inl (cQ, 5, .inr (.inr (.inr (.inr (va_up (va_up (va_up (fun _ => none) 0 (some (h0 0))) 1 (some (h1 0))) 2 (some (h2 0))))))))] ++ clT cI h0 cl0 ++ clT cI h1 cl0 ++ clT cI h2 cl0) _ := hP
  have hD : va_D A ([(a, .inr (1, [.ref q1, .int 0, .int 0])), (q1, .inl (cQ, 5, .inr (.inr (.inr (.inr (va_up (va_up (va_up (fun _ => none) 0 (some (h0 0))) 1 (some (h1 0))) 2 (some (h2 0))))))))] ++ clT cI h0 cl0 ++ clT cI h1 cl0 ++ clT cI h2 cl0) := hD
  refine lv_iinc (v := 3) (lv' := [(1, .int 3), (0, .ref a)]) hx hb dX1_init_46 hl (k := 0) rfl (by decide) (by decide) rfl (fun ls hl => ?_)
  refine lv_goto (tgt := 24) hx hb dX1_init_49 rfl ?_
  refine lv_iload_n hx hb dX1_init_24 rfl (lv_at hl 0 rfl) ?_
  refine lv_aload_n hx hb dX1_init_25 rfl (lv_at hl 1 rfl) ?_
  refine va_get (D := G) (ci := 1) (v := .ref q1) (C := RX1) (T := TX1) (N := 3) hx hb hts in_X1i_1 hown hK.1 hP 0 rfl rfl 0 (by decide) (hts (.fieldLink RX1 11 "EvenLoads$History" "states" "[LEvenLoads$Cluster;") (by decide +kernel)) (fun _ h9 => h9) rfl dX1_init_26 ?_
  refine va_alen (v := 5) hx hb hK.1 hP 1 1 rfl rfl rfl dX1_init_29 ?_
  refine lv_icmp_ge (tgt := 52) hx hb dX1_init_30 rfl (fun c9 => absurd c9 (by decide)) (fun _ => ?_)
  refine lv_aload_n hx hb dX1_init_33 rfl (lv_at hl 1 rfl) ?_
  refine va_get (D := G) (ci := 1) (v := .ref q1) (C := RX1) (T := TX1) (N := 3) hx hb hts in_X1i_1 hown hK.1 hP 0 rfl rfl 0 (by decide) (hts (.fieldLink RX1 11 "EvenLoads$History" "states" "[LEvenLoads$Cluster;") (by decide +kernel)) (fun _ h9 => h9) rfl dX1_init_34 ?_
  refine lv_iload_n hx hb dX1_init_37 rfl (lv_at hl 0 rfl) ?_
  refine va_new (ci := 0) (fs := nu0) (C := RX0) (T := TX0) (N := 13) hx hb hts in_X1i_0 tyX0 tyX0_ok hown (hts (.classLink RX1 9 RX0) (by decide +kernel)) (hts (.instantiable RX0 13) (by decide +kernel)) (hts (.initialized RX0) (by decide +kernel)) hK.1 hP hD hS hA rfl nd0 (Nat.le_of_ble_eq_true rfl) (Nat.le_of_ble_eq_true rfl) dX1_init_38 (fun v3 H hP hD hS => ?_)
  refine lv_dup hx hb dX1_init_41 rfl ?_
  refine mcI_go (Pc := fun _ _ => True) (x := (v3, .inr (0, nu0))) (va_runIN (b := v3) (As := []) (rest := [.ref v3, .int 3, .ref q1]) ⟨hx, hb, hml, hown, hts⟩ (c_X0_init l G cI cQ v3 H.size) ⟨va_cnB 0 hts gX1_init_X0_init_n24 rfl rfl rfl (hK.2.m 1 rfl) (hts (.initialized RX0) (by decide +kernel)) cd_X0_init ⟨Nat.le_of_ble_eq_true rfl, Nat.le_of_ble_eq_true rfl⟩, rfl, hts (.instanceMethod yX0_init) (by decide +kernel)⟩ (preM hK hP hD) rfl rfl hl.1 rfl (Nat.le_of_ble_eq_true rfl) dX1_init_42 ⟨Nat.le_of_ble_eq_true rfl, Nat.le_of_ble_eq_true rfl⟩) hP hD hS hA (fun h3 H1 locs1 ep hP1 hD1 hS1 => ?_)
  subst ep
  have hP := hP1
  have hD := hD1
  have hS := hS1
  have hP : va_P G vwCl ([(a, .inr (1, [.ref q1, .int 0, .int 0])), (q1, .inl (cQ, 5, .inr (.inr (.inr (.inr (va_up (va_up (va_up (fun _ => none) 0 (some (h0 0))) 1 (some (h1 0))) 2 (some (h2 0))))))))] ++ clT cI h0 cl0 ++ clT cI h1 cl0 ++ clT cI h2 cl0 ++ clT cI h3 cl0) _ := hP
  have hD : va_D A ([(a, .inr (1, [.ref q1, .int 0, .int 0])), (q1, .inl (cQ, 5, .inr (.inr (.inr (.inr (va_up (va_up (va_up (fun _ => none) 0 (some (h0 0))) 1 (some (h1 0))) 2 (some (h2 0))))))))] ++ clT cI h0 cl0 ++ clT cI h1 cl0 ++ clT cI h2 cl0 ++ clT cI h3 cl0) := hD
  refine va_astq hx hb hK.1 hP hD hS 1 1 23 0 rfl rfl rfl rfl (show vp_in (nI 3) 5 from vp_in_nI (by decide) (by decide)) dX1_init_45 (fun H locs hP hD hS => ?_)
  have hP : va_P G vwCl ([(a, .inr (1, [.ref q1, .int 0, .int 0])), (q1, .inl (cQ, 5, .inr (.inr (.inr (.inr (va_up (va_up (va_up (va_up (fun _ => none) 0 (some (h0 0))) 1 (some (h1 0))) 2 (some (h2 0))) 3 (some (h3 0))))))))] ++ clT cI h0 cl0 ++ clT cI h1 cl0 ++ clT cI h2 cl0 ++ clT cI h3 cl0) _ := hP
  have hD : va_D A ([(a, .inr (1, [.ref q1, .int 0, .int 0])), (q1, .inl (cQ, 5, .inr (.inr (.inr (.inr (va_up (va_up (va_up (va_up (fun _ => none) 0 (some (h0 0))) 1 (some (h1 0))) 2 (some (h2 0))) 3 (some (h3 0))))))))] ++ clT cI h0 cl0 ++ clT cI h1 cl0 ++ clT cI h2 cl0 ++ clT cI h3 cl0) := hD
  refine lv_iinc (v := 4) (lv' := [(1, .int 4), (0, .ref a)]) hx hb dX1_init_46 hl (k := 0) rfl (by decide) (by decide) rfl (fun ls hl => ?_)
  refine lv_goto (tgt := 24) hx hb dX1_init_49 rfl ?_
  refine lv_iload_n hx hb dX1_init_24 rfl (lv_at hl 0 rfl) ?_
  refine lv_aload_n hx hb dX1_init_25 rfl (lv_at hl 1 rfl) ?_
  refine va_get (D := G) (ci := 1) (v := .ref q1) (C := RX1) (T := TX1) (N := 3) hx hb hts in_X1i_1 hown hK.1 hP 0 rfl rfl 0 (by decide) (hts (.fieldLink RX1 11 "EvenLoads$History" "states" "[LEvenLoads$Cluster;") (by decide +kernel)) (fun _ h9 => h9) rfl dX1_init_26 ?_
  refine va_alen (v := 5) hx hb hK.1 hP 1 1 rfl rfl rfl dX1_init_29 ?_
  refine lv_icmp_ge (tgt := 52) hx hb dX1_init_30 rfl (fun c9 => absurd c9 (by decide)) (fun _ => ?_)
  refine lv_aload_n hx hb dX1_init_33 rfl (lv_at hl 1 rfl) ?_
  refine va_get (D := G) (ci := 1) (v := .ref q1) (C := RX1) (T := TX1) (N := 3) hx hb hts in_X1i_1 hown hK.1 hP 0 rfl rfl 0 (by decide) (hts (.fieldLink RX1 11 "EvenLoads$History" "states" "[LEvenLoads$Cluster;") (by decide +kernel)) (fun _ h9 => h9) rfl dX1_init_34 ?_
  refine lv_iload_n hx hb dX1_init_37 rfl (lv_at hl 0 rfl) ?_
  refine va_new (ci := 0) (fs := nu0) (C := RX0) (T := TX0) (N := 13) hx hb hts in_X1i_0 tyX0 tyX0_ok hown (hts (.classLink RX1 9 RX0) (by decide +kernel)) (hts (.instantiable RX0 13) (by decide +kernel)) (hts (.initialized RX0) (by decide +kernel)) hK.1 hP hD hS hA rfl nd0 (Nat.le_of_ble_eq_true rfl) (Nat.le_of_ble_eq_true rfl) dX1_init_38 (fun v4 H hP hD hS => ?_)
  refine lv_dup hx hb dX1_init_41 rfl ?_
  refine mcI_go (Pc := fun _ _ => True) (x := (v4, .inr (0, nu0))) (va_runIN (b := v4) (As := []) (rest := [.ref v4, .int 4, .ref q1]) ⟨hx, hb, hml, hown, hts⟩ (c_X0_init l G cI cQ v4 H.size) ⟨va_cnB 0 hts gX1_init_X0_init_n24 rfl rfl rfl (hK.2.m 1 rfl) (hts (.initialized RX0) (by decide +kernel)) cd_X0_init ⟨Nat.le_of_ble_eq_true rfl, Nat.le_of_ble_eq_true rfl⟩, rfl, hts (.instanceMethod yX0_init) (by decide +kernel)⟩ (preM hK hP hD) rfl rfl hl.1 rfl (Nat.le_of_ble_eq_true rfl) dX1_init_42 ⟨Nat.le_of_ble_eq_true rfl, Nat.le_of_ble_eq_true rfl⟩) hP hD hS hA (fun h4 H1 locs1 ep hP1 hD1 hS1 => ?_)
  subst ep
  have hP := hP1
  have hD := hD1
  have hS := hS1
  have hP : va_P G vwCl ([(a, .inr (1, [.ref q1, .int 0, .int 0])), (q1, .inl (cQ, 5, .inr (.inr (.inr (.inr (va_up (va_up (va_up (va_up (fun _ => none) 0 (some (h0 0))) 1 (some (h1 0))) 2 (some (h2 0))) 3 (some (h3 0))))))))] ++ clT cI h0 cl0 ++ clT cI h1 cl0 ++ clT cI h2 cl0 ++ clT cI h3 cl0 ++ clT cI h4 cl0) _ := hP
  have hD : va_D A ([(a, .inr (1, [.ref q1, .int 0, .int 0])), (q1, .inl (cQ, 5, .inr (.inr (.inr (.inr (va_up (va_up (va_up (va_up (fun _ => none) 0 (some (h0 0))) 1 (some (h1 0))) 2 (some (h2 0))) 3 (some (h3 0))))))))] ++ clT cI h0 cl0 ++ clT cI h1 cl0 ++ clT cI h2 cl0 ++ clT cI h3 cl0 ++ clT cI h4 cl0) := hD
  refine va_astq hx hb hK.1 hP hD hS 1 1 30 0 rfl rfl rfl rfl (show vp_in (nI 4) 5 from vp_in_nI (by decide) (by decide)) dX1_init_45 (fun H locs hP hD hS => ?_)
  have hP : va_P G vwCl ([(a, .inr (1, [.ref q1, .int 0, .int 0])), (q1, .inl (cQ, 5, .inr (.inr (.inr (.inr (va_up (va_up (va_up (va_up (va_up (fun _ => none) 0 (some (h0 0))) 1 (some (h1 0))) 2 (some (h2 0))) 3 (some (h3 0))) 4 (some (h4 0))))))))] ++ clT cI h0 cl0 ++ clT cI h1 cl0 ++ clT cI h2 cl0 ++ clT cI h3 cl0 ++ clT cI h4 cl0) _ := hP
  have hD : va_D A ([(a, .inr (1, [.ref q1, .int 0, .int 0])), (q1, .inl (cQ, 5, .inr (.inr (.inr (.inr (va_up (va_up (va_up (va_up (va_up (fun _ => none) 0 (some (h0 0))) 1 (some (h1 0))) 2 (some (h2 0))) 3 (some (h3 0))) 4 (some (h4 0))))))))] ++ clT cI h0 cl0 ++ clT cI h1 cl0 ++ clT cI h2 cl0 ++ clT cI h3 cl0 ++ clT cI h4 cl0) := hD
  refine lv_iinc (v := 5) (lv' := [(1, .int 5), (0, .ref a)]) hx hb dX1_init_46 hl (k := 0) rfl (by decide) (by decide) rfl (fun ls hl => ?_)
  refine lv_goto (tgt := 24) hx hb dX1_init_49 rfl ?_
  refine lv_iload_n hx hb dX1_init_24 rfl (lv_at hl 0 rfl) ?_
  refine lv_aload_n hx hb dX1_init_25 rfl (lv_at hl 1 rfl) ?_
  refine va_get (D := G) (ci := 1) (v := .ref q1) (C := RX1) (T := TX1) (N := 3) hx hb hts in_X1i_1 hown hK.1 hP 0 rfl rfl 0 (by decide) (hts (.fieldLink RX1 11 "EvenLoads$History" "states" "[LEvenLoads$Cluster;") (by decide +kernel)) (fun _ h9 => h9) rfl dX1_init_26 ?_
  refine va_alen (v := 5) hx hb hK.1 hP 1 1 rfl rfl rfl dX1_init_29 ?_
  refine lv_icmp_ge (tgt := 52) hx hb dX1_init_30 rfl (fun _ => ?_) (fun c9 => absurd (by decide) c9)
  have hP := va_P.arrq hP 1 rfl (g := fun j => some ((match j with | 0 => h0 | 1 => h1 | 2 => h2 | 3 => h3 | _ => h4 : Nat → Nat) 0)) (fun j hj => by rcases (show j = 0 ∨ j = 1 ∨ j = 2 ∨ j = 3 ∨ j = 4 by omega) with rfl | rfl | rfl | rfl | rfl <;> rfl)
  have hD := va_D.set (p := 1) (a := q1) (e := .inl (cQ, 5, .inr (.inr (.inr (.inr (fun j => some ((match j with | 0 => h0 | 1 => h1 | 2 => h2 | 3 => h3 | _ => h4 : Nat → Nat) 0))))))) hD rfl
  exact m_vret (w1 := fun u : (Nat → Nat) × (Nat → Nat → Nat) => hwT cI cQ u.1 u.2 hw0) (fun i => match i with | 0 => a | _ => q1, fun j => match j with | 0 => h0 | 1 => h1 | 2 => h2 | 3 => h3 | _ => h4) hx hb hr hlocks rfl hP hD hS dX1_init_52
/-- the cells of a new object: now, before, trial, the history's two rows, the step, the program -/
abbrev NA : Type := (Nat → Nat) × (Nat → Nat) × (Nat → Nat) × (Nat → Nat) × (Nat → Nat → Nat) × Nat × (Nat → Nat)
theorem fl7 (w0 w1 w2 w3 w4 w5 w6 : va_W) : w0 ++ w1 ++ w2 ++ w3 ++ w4 ++ w5 ++ w6 = fl [w0, w1, w2, w3, w4, w5, w6] := by
  simp only [fl, List.append_assoc, List.append_nil]
theorem fl_cons (w : va_W) {b1 b2 : List va_W} (h : (fl b1).Perm (fl b2)) : (fl (w :: b1)).Perm (fl (w :: b2)) := List.Perm.append_left w h
theorem fl_app (b1 b2 : List va_W) : fl (b1 ++ b2) = fl b1 ++ fl b2 := by
  induction b1 with
  | nil => rfl
  | cons w b1 ih =>
    show w ++ fl (b1 ++ b2) = w ++ fl b1 ++ fl b2
    rw [ih, List.append_assoc]
theorem fl_comm (b1 b2 : List va_W) : (fl (b1 ++ b2)).Perm (fl (b2 ++ b1)) := by
  rw [fl_app, fl_app]
  exact List.perm_append_comm
theorem fl_new (ev n b t hw st pg : va_W) : (fl [ev, n, b, t, hw, st, pg]).Perm (fl [pg, ev, hw, st, n, b, t]) :=
  (fl_comm [ev, n, b, t, hw, st] [pg]).trans (fl_cons pg (fl_cons ev (fl_comm [n, b, t] [hw, st])))
set_option maxHeartbeats 4000000 in
set_option maxRecDepth 100000 in
theorem c_X4_init (l : Launch) (G : va_G) (cI cQ : ClassId) (a : Nat) (sz0 : Nat) : Met l yX4_init wsX4_init ({ frames := 3, cells := 62, slots := 1092, locals := 53 } : Room) (oPc G cI cQ [.ref a] [(a, .inr (4, nu4))] sz0) (va_Qv (fun _ : NA => True) (mB G (va_A [(a, .inr (4, nu4))] sz0) (fun u => fl [(pgT cI u.2.2.2.2.2.2 pg0), (evT a u.1 u.2.1 u.2.2.1 u.2.2.2.1 u.2.2.2.2.2.1 u.2.2.2.2.2.2), (hwT cI cQ u.2.2.2.1 u.2.2.2.2.1 hw0), (stT cI u.2.2.2.2.2.1 st0c), (clT cI u.1 cl0), (clT cI u.2.1 cl0), (clT cI u.2.2.1 cl0)])) (va_A [(a, .inr (4, nu4))] sz0)) 62 1092 (va_A [(a, .inr (4, nu4))] sz0) := by
  refine co_of (cc := cX4_init) (maxL := 1) (own := RX4) (by decide) rfl rfl (Nat.le_of_ble_eq_true rfl) rfl rfl ?_
  intro p e s m below meth cd ls A hx hb hr hts hown hlocks hml hin hA hK hO hP hD hS hl
  refine lv_aload_n hx hb dX4_init_0 rfl (lv_at hl 0 rfl) ?_
  refine W.objInit hx hb hown (hts (.methodLink RX4 1 objectInit) (by decide +kernel)) (hts (.instanceMethod objectInit) (by decide +kernel)) (hts (.code objectInit ⟨#[0xb1]⟩ 1 none) (by decide +kernel)) rfl (by rw [hml]; exact hl.1) rfl dX4_init_1 (Nat.le_of_ble_eq_true rfl) (Nat.le_of_ble_eq_true rfl) ?_
  have hP : va_P G vwCl ([(a, .inr (4, [.null, .null, .null, .null, .null, .null]))]) _ := hP
  have hD : va_D A ([(a, .inr (4, [.null, .null, .null, .null, .null, .null]))]) := hD
  refine lv_aload_n hx hb dX4_init_4 rfl (lv_at hl 0 rfl) ?_
  refine va_new (ci := 0) (fs := nu0) (C := RX0) (T := TX0) (N := 13) hx hb hts in_X4i_0 tyX0 tyX0_ok hown (hts (.classLink RX4 7 RX0) (by decide +kernel)) (hts (.instantiable RX0 13) (by decide +kernel)) (hts (.initialized RX0) (by decide +kernel)) hK.1 hP hD hS hA rfl nd0 (Nat.le_of_ble_eq_true rfl) (Nat.le_of_ble_eq_true rfl) dX4_init_5 (fun v0 H hP hD hS => ?_)
  refine lv_dup hx hb dX4_init_8 rfl ?_
  refine mcI_go (Pc := fun _ _ => True) (x := (v0, .inr (0, nu0))) (va_runIN (b := v0) (As := []) (rest := [.ref v0, .ref a]) ⟨hx, hb, hml, hown, hts⟩ (c_X0_init l G cI cQ v0 H.size) ⟨va_cnB 0 hts gX4_init_X0_init_n9 rfl rfl rfl (hK.2.m 0 rfl) (hts (.initialized RX0) (by decide +kernel)) cd_X0_init ⟨Nat.le_of_ble_eq_true rfl, Nat.le_of_ble_eq_true rfl⟩, rfl, hts (.instanceMethod yX0_init) (by decide +kernel)⟩ (preM hK hP hD) rfl rfl hl.1 rfl (Nat.le_of_ble_eq_true rfl) dX4_init_9 ⟨Nat.le_of_ble_eq_true rfl, Nat.le_of_ble_eq_true rfl⟩) hP hD hS hA (fun n0 H1 locs1 ep hP1 hD1 hS1 => ?_)
  subst ep
  have hP := hP1
  have hD := hD1
  have hS := hS1
  have hP : va_P G vwCl ([(a, .inr (4, [.null, .null, .null, .null, .null, .null]))] ++ clT cI n0 cl0) _ := hP
  have hD : va_D A ([(a, .inr (4, [.null, .null, .null, .null, .null, .null]))] ++ clT cI n0 cl0) := hD
  refine va_putF (D := G) (ci := 4) (v := .ref (n0 0)) (ty := .object RX0) (C := RX4) (T := TX4) (N := 6) hx hb hts in_X4i_4 tyX4 tyX4_ok nmX4 hown hK.1 hP hD hS 0 rfl rfl 0 (by decide) (hts (.fieldLink RX4 10 "EvenLoads" "now" "LEvenLoads$Cluster;") (by decide +kernel)) (fun _ h9 => h9) rfl hin rfl (by decide +kernel) rfl rfl (Nat.le_of_ble_eq_true rfl) dX4_init_12 (fun H locs hP hD hS => ?_)
  have hP : va_P G vwCl ([(a, .inr (4, [.ref (n0 0), .null, .null, .null, .null, .null]))] ++ clT cI n0 cl0) _ := hP
  have hD : va_D A ([(a, .inr (4, [.ref (n0 0), .null, .null, .null, .null, .null]))] ++ clT cI n0 cl0) := hD
  refine lv_aload_n hx hb dX4_init_15 rfl (lv_at hl 0 rfl) ?_
  refine va_new (ci := 0) (fs := nu0) (C := RX0) (T := TX0) (N := 13) hx hb hts in_X4i_0 tyX0 tyX0_ok hown (hts (.classLink RX4 7 RX0) (by decide +kernel)) (hts (.instantiable RX0 13) (by decide +kernel)) (hts (.initialized RX0) (by decide +kernel)) hK.1 hP hD hS hA rfl nd0 (Nat.le_of_ble_eq_true rfl) (Nat.le_of_ble_eq_true rfl) dX4_init_16 (fun v1 H hP hD hS => ?_)
  refine lv_dup hx hb dX4_init_19 rfl ?_
  refine mcI_go (Pc := fun _ _ => True) (x := (v1, .inr (0, nu0))) (va_runIN (b := v1) (As := []) (rest := [.ref v1, .ref a]) ⟨hx, hb, hml, hown, hts⟩ (c_X0_init l G cI cQ v1 H.size) ⟨va_cnB 0 hts gX4_init_X0_init_n9 rfl rfl rfl (hK.2.m 0 rfl) (hts (.initialized RX0) (by decide +kernel)) cd_X0_init ⟨Nat.le_of_ble_eq_true rfl, Nat.le_of_ble_eq_true rfl⟩, rfl, hts (.instanceMethod yX0_init) (by decide +kernel)⟩ (preM hK hP hD) rfl rfl hl.1 rfl (Nat.le_of_ble_eq_true rfl) dX4_init_20 ⟨Nat.le_of_ble_eq_true rfl, Nat.le_of_ble_eq_true rfl⟩) hP hD hS hA (fun n1 H1 locs1 ep hP1 hD1 hS1 => ?_)
  subst ep
  have hP := hP1
  have hD := hD1
  have hS := hS1
  have hP : va_P G vwCl ([(a, .inr (4, [.ref (n0 0), .null, .null, .null, .null, .null]))] ++ clT cI n0 cl0 ++ clT cI n1 cl0) _ := hP
  have hD : va_D A ([(a, .inr (4, [.ref (n0 0), .null, .null, .null, .null, .null]))] ++ clT cI n0 cl0 ++ clT cI n1 cl0) := hD
  refine va_putF (D := G) (ci := 4) (v := .ref (n1 0)) (ty := .object RX0) (C := RX4) (T := TX4) (N := 6) hx hb hts in_X4i_4 tyX4 tyX4_ok nmX4 hown hK.1 hP hD hS 0 rfl rfl 1 (by decide) (hts (.fieldLink RX4 16 "EvenLoads" "before" "LEvenLoads$Cluster;") (by decide +kernel)) (fun _ h9 => h9) rfl hin rfl (by decide +kernel) rfl rfl (Nat.le_of_ble_eq_true rfl) dX4_init_23 (fun H locs hP hD hS => ?_)
  have hP : va_P G vwCl ([(a, .inr (4, [.ref (n0 0), .ref (n1 0), .null, .null, .null, .null]))] ++ clT cI n0 cl0 ++ clT cI n1 cl0) _ := hP
  have hD : va_D A ([(a, .inr (4, [.ref (n0 0), .ref (n1 0), .null, .null, .null, .null]))] ++ clT cI n0 cl0 ++ clT cI n1 cl0) := hD
  refine lv_aload_n hx hb dX4_init_26 rfl (lv_at hl 0 rfl) ?_
  refine va_new (ci := 0) (fs := nu0) (C := RX0) (T := TX0) (N := 13) hx hb hts in_X4i_0 tyX0 tyX0_ok hown (hts (.classLink RX4 7 RX0) (by decide +kernel)) (hts (.instantiable RX0 13) (by decide +kernel)) (hts (.initialized RX0) (by decide +kernel)) hK.1 hP hD hS hA rfl nd0 (Nat.le_of_ble_eq_true rfl) (Nat.le_of_ble_eq_true rfl) dX4_init_27 (fun v2 H hP hD hS => ?_)
  refine lv_dup hx hb dX4_init_30 rfl ?_
  refine mcI_go (Pc := fun _ _ => True) (x := (v2, .inr (0, nu0))) (va_runIN (b := v2) (As := []) (rest := [.ref v2, .ref a]) ⟨hx, hb, hml, hown, hts⟩ (c_X0_init l G cI cQ v2 H.size) ⟨va_cnB 0 hts gX4_init_X0_init_n9 rfl rfl rfl (hK.2.m 0 rfl) (hts (.initialized RX0) (by decide +kernel)) cd_X0_init ⟨Nat.le_of_ble_eq_true rfl, Nat.le_of_ble_eq_true rfl⟩, rfl, hts (.instanceMethod yX0_init) (by decide +kernel)⟩ (preM hK hP hD) rfl rfl hl.1 rfl (Nat.le_of_ble_eq_true rfl) dX4_init_31 ⟨Nat.le_of_ble_eq_true rfl, Nat.le_of_ble_eq_true rfl⟩) hP hD hS hA (fun n2 H1 locs1 ep hP1 hD1 hS1 => ?_)
  subst ep
  have hP := hP1
  have hD := hD1
  have hS := hS1
  have hP : va_P G vwCl ([(a, .inr (4, [.ref (n0 0), .ref (n1 0), .null, .null, .null, .null]))] ++ clT cI n0 cl0 ++ clT cI n1 cl0 ++ clT cI n2 cl0) _ := hP
  have hD : va_D A ([(a, .inr (4, [.ref (n0 0), .ref (n1 0), .null, .null, .null, .null]))] ++ clT cI n0 cl0 ++ clT cI n1 cl0 ++ clT cI n2 cl0) := hD
  refine va_putF (D := G) (ci := 4) (v := .ref (n2 0)) (ty := .object RX0) (C := RX4) (T := TX4) (N := 6) hx hb hts in_X4i_4 tyX4 tyX4_ok nmX4 hown hK.1 hP hD hS 0 rfl rfl 2 (by decide) (hts (.fieldLink RX4 19 "EvenLoads" "trial" "LEvenLoads$Cluster;") (by decide +kernel)) (fun _ h9 => h9) rfl hin rfl (by decide +kernel) rfl rfl (Nat.le_of_ble_eq_true rfl) dX4_init_34 (fun H locs hP hD hS => ?_)
  have hP : va_P G vwCl ([(a, .inr (4, [.ref (n0 0), .ref (n1 0), .ref (n2 0), .null, .null, .null]))] ++ clT cI n0 cl0 ++ clT cI n1 cl0 ++ clT cI n2 cl0) _ := hP
  have hD : va_D A ([(a, .inr (4, [.ref (n0 0), .ref (n1 0), .ref (n2 0), .null, .null, .null]))] ++ clT cI n0 cl0 ++ clT cI n1 cl0 ++ clT cI n2 cl0) := hD
  refine lv_aload_n hx hb dX4_init_37 rfl (lv_at hl 0 rfl) ?_
  refine va_new (ci := 1) (fs := nu1) (C := RX1) (T := TX1) (N := 3) hx hb hts in_X4i_1 tyX1 tyX1_ok hown (hts (.classLink RX4 22 RX1) (by decide +kernel)) (hts (.instantiable RX1 3) (by decide +kernel)) (hts (.initialized RX1) (by decide +kernel)) hK.1 hP hD hS hA rfl nd1 (Nat.le_of_ble_eq_true rfl) (Nat.le_of_ble_eq_true rfl) dX4_init_38 (fun v3 H hP hD hS => ?_)
  refine lv_dup hx hb dX4_init_41 rfl ?_
  refine mcI_go (Pc := fun _ _ => True) (x := (v3, .inr (1, nu1))) (va_runI (b := v3) (As := []) (rest := [.ref v3, .ref a]) ⟨hx, hb, hml, hown, hts⟩ (c_X1_init l G cI cQ v3 H.size) (cwI 0 hts gX4_init_X1_init rfl rfl rfl (hts (.initialized RX1) (by decide +kernel)) (hts (.methodLink RX4 24 yX1_init) (by decide +kernel)) (hts (.instanceMethod yX1_init) (by decide +kernel)) rfl cd_X1_init ⟨Nat.le_of_ble_eq_true rfl, Nat.le_of_ble_eq_true rfl⟩) (preO hK hO hP hD) rfl rfl hl.1 rfl (Nat.le_of_ble_eq_true rfl) dX4_init_42 ⟨Nat.le_of_ble_eq_true rfl, Nat.le_of_ble_eq_true rfl⟩) hP hD hS hA (fun u3 H1 locs1 ep hP1 hD1 hS1 => ?_)
  subst ep
  have hP := hP1
  have hD := hD1
  have hS := hS1
  have hP : va_P G vwCl ([(a, .inr (4, [.ref (n0 0), .ref (n1 0), .ref (n2 0), .null, .null, .null]))] ++ clT cI n0 cl0 ++ clT cI n1 cl0 ++ clT cI n2 cl0 ++ hwT cI cQ u3.1 u3.2 hw0) _ := hP
  have hD : va_D A ([(a, .inr (4, [.ref (n0 0), .ref (n1 0), .ref (n2 0), .null, .null, .null]))] ++ clT cI n0 cl0 ++ clT cI n1 cl0 ++ clT cI n2 cl0 ++ hwT cI cQ u3.1 u3.2 hw0) := hD
  refine va_putF (D := G) (ci := 4) (v := .ref (u3.1 0)) (ty := .object RX1) (C := RX4) (T := TX4) (N := 6) hx hb hts in_X4i_4 tyX4 tyX4_ok nmX4 hown hK.1 hP hD hS 0 rfl rfl 3 (by decide) (hts (.fieldLink RX4 25 "EvenLoads" "history" "LEvenLoads$History;") (by decide +kernel)) (fun _ h9 => h9) rfl hin rfl (by decide +kernel) rfl rfl (Nat.le_of_ble_eq_true rfl) dX4_init_45 (fun H locs hP hD hS => ?_)
  have hP : va_P G vwCl ([(a, .inr (4, [.ref (n0 0), .ref (n1 0), .ref (n2 0), .ref (u3.1 0), .null, .null]))] ++ clT cI n0 cl0 ++ clT cI n1 cl0 ++ clT cI n2 cl0 ++ hwT cI cQ u3.1 u3.2 hw0) _ := hP
  have hD : va_D A ([(a, .inr (4, [.ref (n0 0), .ref (n1 0), .ref (n2 0), .ref (u3.1 0), .null, .null]))] ++ clT cI n0 cl0 ++ clT cI n1 cl0 ++ clT cI n2 cl0 ++ hwT cI cQ u3.1 u3.2 hw0) := hD
  refine lv_aload_n hx hb dX4_init_48 rfl (lv_at hl 0 rfl) ?_
  refine va_new (ci := 3) (fs := nu3) (C := RX3) (T := TX3) (N := 5) hx hb hts in_X4i_3 tyX3 tyX3_ok hown (hts (.classLink RX4 29 RX3) (by decide +kernel)) (hts (.instantiable RX3 5) (by decide +kernel)) (hts (.initialized RX3) (by decide +kernel)) hK.1 hP hD hS hA rfl nd3 (Nat.le_of_ble_eq_true rfl) (Nat.le_of_ble_eq_true rfl) dX4_init_49 (fun v4 H hP hD hS => ?_)
  refine lv_dup hx hb dX4_init_52 rfl ?_
  refine mcI_go (Pc := fun _ _ => True) (x := (v4, .inr (3, nu3))) (va_runIN (b := v4) (As := []) (rest := [.ref v4, .ref a]) ⟨hx, hb, hml, hown, hts⟩ (c_X3_init l G cI cQ v4 H.size) ⟨va_cnB 0 hts gX4_init_X3_init_n31 rfl rfl rfl (hK.2.m 2 rfl) (hts (.initialized RX3) (by decide +kernel)) cd_X3_init ⟨Nat.le_of_ble_eq_true rfl, Nat.le_of_ble_eq_true rfl⟩, rfl, hts (.instanceMethod yX3_init) (by decide +kernel)⟩ (preM hK hP hD) rfl rfl hl.1 rfl (Nat.le_of_ble_eq_true rfl) dX4_init_53 ⟨Nat.le_of_ble_eq_true rfl, Nat.le_of_ble_eq_true rfl⟩) hP hD hS hA (fun u4 H1 locs1 ep hP1 hD1 hS1 => ?_)
  have ep : u4 0 = v4 := ep
  subst ep
  have hP := hP1
  have hD := hD1
  have hS := hS1
  have hP : va_P G vwCl ([(a, .inr (4, [.ref (n0 0), .ref (n1 0), .ref (n2 0), .ref (u3.1 0), .null, .null]))] ++ clT cI n0 cl0 ++ clT cI n1 cl0 ++ clT cI n2 cl0 ++ hwT cI cQ u3.1 u3.2 hw0 ++ stT cI (u4 0) st0c) _ := hP
  have hD : va_D A ([(a, .inr (4, [.ref (n0 0), .ref (n1 0), .ref (n2 0), .ref (u3.1 0), .null, .null]))] ++ clT cI n0 cl0 ++ clT cI n1 cl0 ++ clT cI n2 cl0 ++ hwT cI cQ u3.1 u3.2 hw0 ++ stT cI (u4 0) st0c) := hD
  refine va_putF (D := G) (ci := 4) (v := .ref (u4 0)) (ty := .object RX3) (C := RX4) (T := TX4) (N := 6) hx hb hts in_X4i_4 tyX4 tyX4_ok nmX4 hown hK.1 hP hD hS 0 rfl rfl 4 (by decide) (hts (.fieldLink RX4 32 "EvenLoads" "next" "LEvenLoads$Step;") (by decide +kernel)) (fun _ h9 => h9) rfl hin rfl (by decide +kernel) rfl rfl (Nat.le_of_ble_eq_true rfl) dX4_init_56 (fun H locs hP hD hS => ?_)
  have hP : va_P G vwCl ([(a, .inr (4, [.ref (n0 0), .ref (n1 0), .ref (n2 0), .ref (u3.1 0), .ref (u4 0), .null]))] ++ clT cI n0 cl0 ++ clT cI n1 cl0 ++ clT cI n2 cl0 ++ hwT cI cQ u3.1 u3.2 hw0 ++ stT cI (u4 0) st0c) _ := hP
  have hD : va_D A ([(a, .inr (4, [.ref (n0 0), .ref (n1 0), .ref (n2 0), .ref (u3.1 0), .ref (u4 0), .null]))] ++ clT cI n0 cl0 ++ clT cI n1 cl0 ++ clT cI n2 cl0 ++ hwT cI cQ u3.1 u3.2 hw0 ++ stT cI (u4 0) st0c) := hD
  refine lv_aload_n hx hb dX4_init_59 rfl (lv_at hl 0 rfl) ?_
  refine va_new (ci := 2) (fs := nu2) (C := RX2) (T := TX2) (N := 8) hx hb hts in_X4i_2 tyX2 tyX2_ok hown (hts (.classLink RX4 36 RX2) (by decide +kernel)) (hts (.instantiable RX2 8) (by decide +kernel)) (hts (.initialized RX2) (by decide +kernel)) hK.1 hP hD hS hA rfl nd2 (Nat.le_of_ble_eq_true rfl) (Nat.le_of_ble_eq_true rfl) dX4_init_60 (fun v5 H hP hD hS => ?_)
  refine lv_dup hx hb dX4_init_63 rfl ?_
  refine mcI_go (Pc := fun _ _ => True) (x := (v5, .inr (2, nu2))) (va_runIN (b := v5) (As := []) (rest := [.ref v5, .ref a]) ⟨hx, hb, hml, hown, hts⟩ (c_X2_init l G cI cQ v5 H.size) ⟨va_cnB 0 hts gX4_init_X2_init_n38 rfl rfl rfl (hK.2.m 3 rfl) (hts (.initialized RX2) (by decide +kernel)) cd_X2_init ⟨Nat.le_of_ble_eq_true rfl, Nat.le_of_ble_eq_true rfl⟩, rfl, hts (.instanceMethod yX2_init) (by decide +kernel)⟩ (preM hK hP hD) rfl rfl hl.1 rfl (Nat.le_of_ble_eq_true rfl) dX4_init_64 ⟨Nat.le_of_ble_eq_true rfl, Nat.le_of_ble_eq_true rfl⟩) hP hD hS hA (fun u5 H1 locs1 ep hP1 hD1 hS1 => ?_)
  subst ep
  have hP := hP1
  have hD := hD1
  have hS := hS1
  have hP : va_P G vwCl ([(a, .inr (4, [.ref (n0 0), .ref (n1 0), .ref (n2 0), .ref (u3.1 0), .ref (u4 0), .null]))] ++ clT cI n0 cl0 ++ clT cI n1 cl0 ++ clT cI n2 cl0 ++ hwT cI cQ u3.1 u3.2 hw0 ++ stT cI (u4 0) st0c ++ pgT cI u5 pg0) _ := hP
  have hD : va_D A ([(a, .inr (4, [.ref (n0 0), .ref (n1 0), .ref (n2 0), .ref (u3.1 0), .ref (u4 0), .null]))] ++ clT cI n0 cl0 ++ clT cI n1 cl0 ++ clT cI n2 cl0 ++ hwT cI cQ u3.1 u3.2 hw0 ++ stT cI (u4 0) st0c ++ pgT cI u5 pg0) := hD
  refine va_putF (D := G) (ci := 4) (v := .ref (u5 0)) (ty := .object RX2) (C := RX4) (T := TX4) (N := 6) hx hb hts in_X4i_4 tyX4 tyX4_ok nmX4 hown hK.1 hP hD hS 0 rfl rfl 5 (by decide) (hts (.fieldLink RX4 39 "EvenLoads" "program" "LEvenLoads$Program;") (by decide +kernel)) (fun _ h9 => h9) rfl hin rfl (by decide +kernel) rfl rfl (Nat.le_of_ble_eq_true rfl) dX4_init_67 (fun H locs hP hD hS => ?_)
  have hP : va_P G vwCl ([(a, .inr (4, [.ref (n0 0), .ref (n1 0), .ref (n2 0), .ref (u3.1 0), .ref (u4 0), .ref (u5 0)]))] ++ clT cI n0 cl0 ++ clT cI n1 cl0 ++ clT cI n2 cl0 ++ hwT cI cQ u3.1 u3.2 hw0 ++ stT cI (u4 0) st0c ++ pgT cI u5 pg0) _ := hP
  have hD : va_D A ([(a, .inr (4, [.ref (n0 0), .ref (n1 0), .ref (n2 0), .ref (u3.1 0), .ref (u4 0), .ref (u5 0)]))] ++ clT cI n0 cl0 ++ clT cI n1 cl0 ++ clT cI n2 cl0 ++ hwT cI cQ u3.1 u3.2 hw0 ++ stT cI (u4 0) st0c ++ pgT cI u5 pg0) := hD
  have hP := P_perm (fl_new _ _ _ _ _ _ _) (show va_P G vwCl (fl [[(a, .inr (4, [.ref (n0 0), .ref (n1 0), .ref (n2 0), .ref (u3.1 0), .ref (u4 0), .ref (u5 0)]))], clT cI n0 cl0, clT cI n1 cl0, clT cI n2 cl0, hwT cI cQ u3.1 u3.2 hw0, stT cI (u4 0) st0c, pgT cI u5 pg0]) H from by rw [← fl7]; exact hP)
  have hD := D_perm (fl_new _ _ _ _ _ _ _) (show va_D A (fl [[(a, .inr (4, [.ref (n0 0), .ref (n1 0), .ref (n2 0), .ref (u3.1 0), .ref (u4 0), .ref (u5 0)]))], clT cI n0 cl0, clT cI n1 cl0, clT cI n2 cl0, hwT cI cQ u3.1 u3.2 hw0, stT cI (u4 0) st0c, pgT cI u5 pg0]) from by rw [← fl7]; exact hD)
  exact m_vret (w1 := fun u : NA => fl [(pgT cI u.2.2.2.2.2.2 pg0), (evT a u.1 u.2.1 u.2.2.1 u.2.2.2.1 u.2.2.2.2.2.1 u.2.2.2.2.2.2), (hwT cI cQ u.2.2.2.1 u.2.2.2.2.1 hw0), (stT cI u.2.2.2.2.2.1 st0c), (clT cI u.1 cl0), (clT cI u.2.1 cl0), (clT cI u.2.2.1 cl0)]) (n0, n1, n2, u3.1, u3.2, u4 0, u5) hx hb hr hlocks trivial hP hD hS dX4_init_70
