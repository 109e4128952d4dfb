-- X5_fewest
theorem lk_X5_fewest_1 : Cond.fieldLink RX5 25 "EvenLoadsModel" "loads" "[I" ∈ wsX5_fewest := List.mem_of_getElem? (i := 1) (by decide +kernel)
theorem lk_X5_fewest_2 : Cond.fieldLink RX5 7 "EvenLoadsModel" "s" "[I" ∈ wsX5_fewest := List.mem_of_getElem? (i := 2) (by decide +kernel)
theorem lk_X5_fewest_3 : Cond.fieldLink RX5 201 "EvenLoadsModel" "cheapest" "I" ∈ wsX5_fewest := List.mem_of_getElem? (i := 3) (by decide +kernel)
theorem in_X5_fewest_X5 : ∀ w ∈ wsX50, w ∈ wsX5_fewest := by decide +kernel
set_option maxHeartbeats 4000000 in
set_option maxRecDepth 100000 in
theorem few_body (l : Launch) {G : va_G} {cI cQ : ClassId} {q : Nat → Nat} {z : MS} {nv nj : Nat} {p0 : Int32} {p : Program} {e : Env} {s : State} {m : MethodId} {below : List Frame} {meth : Method} {cd : Code} {A : Nat → Prop} {Q : State → Prop} {i82 : Nat} {v3 : Int32} (hV : mV (kMs z) nv nj) (hx : p.tables.exec = Jvm.exec) (hb : cd.code = cX5_fewest) (hts : ∀ w ∈ wsX5_fewest, w.before ([.ref (q 0), .int p0] : List Value).toArray s = true) (hown : s.vm.findClass RX5 = some m.cls) (hml : cd.maxLocals = 7) (hA : ∀ q, s.heap.size ≤ q → A q) (hK : SF G cI cQ s) (hlt82 : i82 < nj)
    (K82 : ∀ (H : Heap) (locs : List Loc), va_P G vwCl (mdT cI q (uMcheap (uMloads z (gL (kMs z) nv nj)) (fw2 (kMs z) nv nj (i82 + 1)))) H → va_D A (mdT cI q (uMcheap (uMloads z (gL (kMs z) nv nj)) (fw2 (kMs z) nv nj (i82 + 1)))) → va_S A s.heap H locs → ∀ (ls : Array Slot), lv_has ls 7 [(4, .int (nI (i82 + 1))), (3, .int 2), (2, .int (mTarget (kMs z) nj)), (0, .ref (q 0)), (1, .int p0)] → W p l e ({ frames := 6, cells := 0, slots := 0, locals := 127 } : Room) s m ([.ref (q 0), .int p0] : List Value).toArray below meth cd H locs 0 0 Q (F0 m 82 ls []))
    {H : Heap} {locs : List Loc} (hP : va_P G vwCl (mdT cI q (uMcheap (uMloads z (gL (kMs z) nv nj)) (fw2 (kMs z) nv nj i82))) H) (hD : va_D A (mdT cI q (uMcheap (uMloads z (gL (kMs z) nv nj)) (fw2 (kMs z) nv nj i82)))) (hS : va_S A s.heap H locs) {ls : Array Slot} (hl : lv_has ls 7 [(4, .int (nI i82)), (3, .int v3), (2, .int (mTarget (kMs z) nj)), (0, .ref (q 0)), (1, .int p0)]) : W p l e ({ frames := 6, cells := 0, slots := 0, locals := 127 } : Room) s m ([.ref (q 0), .int p0] : List Value).toArray below meth cd H locs 0 0 Q (F0 m 107 ls []) := by
  have hm := hV.1
  have hnj := hm.2.2.2
  have hnv := hm.2.1
  refine lv_iconst (v := 2) hx hb dX5_fewest_107 (by decide) ?_
  refine lv_istore_n (lv' := [(3, .int 2), (4, .int (nI i82)), (2, .int (mTarget (kMs z) nj)), (0, .ref (q 0)), (1, .int p0)]) hx hb dX5_fewest_108 rfl hl (by decide) rfl (fun ls hl => ?_)
  refine lv_aload_n hx hb dX5_fewest_109 rfl (lv_at hl 3 rfl) ?_
  refine lv_iload hx hb dX5_fewest_110 (lv_at hl 1 rfl) ?_
  refine lv_iconst (v := 2) hx hb dX5_fewest_112 (by decide) ?_
  refine pcV (rest := []) ⟨hx, hb, hml, hown, hts⟩ (c_X5_ofS l G cI cQ q (uMcheap (uMloads z (gL (kMs z) nv nj)) (fw2 (kMs z) nv nj i82)) nv nj (kMs z) (s_X _ _ _) hm (nI i82) 2 (vp_in_nI (by have := hm.2.2.2; omega) (by decide)) (vp_in_nI (n := 2) (N := 4) (by decide) (by decide))) (cwV 2 hts gX5_fewest_X5_of rfl rfl rfl cd_X5_of ⟨Nat.le_of_ble_eq_true rfl, Nat.le_of_ble_eq_true rfl⟩) hK hP [0, 1, 2, 3, 4, 5, 6] rfl 0 rfl rfl rfl rfl hl.1 rfl (Nat.le_of_ble_eq_true rfl) dX5_fewest_113 ⟨Nat.zero_le _, Nat.zero_le _⟩ ?_
  refine lv_istore (lv' := [(5, .int (mOf (kMs z) (nI i82) 2)), (3, .int 2), (4, .int (nI i82)), (2, .int (mTarget (kMs z) nj)), (0, .ref (q 0)), (1, .int p0)]) hx hb dX5_fewest_116 hl (by decide) rfl (fun ls hl => ?_)
  refine lv_iconst (v := 0) hx hb dX5_fewest_118 (by decide) ?_
  refine lv_istore (lv' := [(6, .int 0), (5, .int (mOf (kMs z) (nI i82) 2)), (3, .int 2), (4, .int (nI i82)), (2, .int (mTarget (kMs z) nj)), (0, .ref (q 0)), (1, .int p0)]) hx hb dX5_fewest_119 hl (by decide) rfl (fun ls hl => ?_)
  have L121 : ∀ (n121 i121 : Nat), 0 ≤ i121 → i121 ≤ nv → nv + 1 ≤ i121 + n121 → (i121 = 0 ∨ ¬ mOf (kMs z) (nI i82) 2 = -9) → ∀ (H : Heap) (locs : List Loc), va_P G vwCl ((mdT cI q (uMcheap (uMloads z (gL (kMs z) nv nj)) (dbK (kMs z) nv nj (mTarget (kMs z) nj) (gL (kMs z) nv nj) i82 (fw2 (kMs z) nv nj i82) i121)))) H → va_D A ((mdT cI q (uMcheap (uMloads z (gL (kMs z) nv nj)) (dbK (kMs z) nv nj (mTarget (kMs z) nj) (gL (kMs z) nv nj) i82 (fw2 (kMs z) nv nj i82) i121)))) → va_S A s.heap H locs → ∀ (ls : Array Slot), lv_has ls 7 [(6, .int (nI i121)), (5, .int (mOf (kMs z) (nI i82) 2)), (3, .int 2), (4, .int (nI i82)), (2, .int (mTarget (kMs z) nj)), (0, .ref (q 0)), (1, .int p0)] → W p l e ({ frames := 6, cells := 0, slots := 0, locals := 127 } : Room) s m ([.ref (q 0), .int p0] : List Value).toArray below meth cd H locs 0 0  Q (F0 m 121 ls []) := by
    intro n121
    induction n121 with
    | zero => intro i121 h0 h1 h2; exact absurd h2 (by omega)
    | succ n121 ih121 =>
      intro i121 hlo121 hle121 hin121 hz121 H locs hP hD hS ls hl
      refine lv_iload hx hb dX5_fewest_121 (lv_at hl 0 rfl) ?_
      refine lv_aload_n hx hb dX5_fewest_123 rfl (lv_at hl 5 rfl) ?_
      refine va_get (D := G) (ci := 5) (v := .ref (q 1)) (C := RX5) (T := TX5) (N := 15) hx hb hts in_X5_fewest_X5 hown hK.1 hP 0 rfl rfl 0 (by decide) (hts _ lk_X5_fewest_2) (fun _ h9 => h9) rfl dX5_fewest_124 ?_
      refine lv_iconst (v := 0) hx hb dX5_fewest_127 (by decide) ?_
      refine iald_n hx hb hK hP 1 rfl 0 rfl (by decide) (by decide) dX5_fewest_128 ?_
      refine lv_cvt (y := (nI nv)) (hm).1 ?_
      refine lv_icmp_ge (tgt := 197) hx hb dX5_fewest_129 (by decide) (fun c_10 => ?_) (fun c_10 => ?_)
      · skip
        have q_11 : nv = i121 := by have h9 := (nI_leI (a := nv) (b := i121) (by omega) (by omega)).mp c_10; omega
        subst q_11
        refine lv_iinc (v := (nI (i82 + 1))) (lv' := [(4, .int (nI (i82 + 1))), (6, .int (nI nv)), (5, .int (mOf (kMs z) (nI i82) 2)), (3, .int 2), (2, .int (mTarget (kMs z) nj)), (0, .ref (q 0)), (1, .int p0)]) hx hb dX5_fewest_197 hl (k := 3) rfl (nI_1 i82) (by decide) rfl (fun ls hl => ?_)
        refine lv_goto (tgt := 82) hx hb dX5_fewest_200 (by decide) ?_
        have e_13 : (fw2 (kMs z) nv nj (i82 + 1)) = (dbK (kMs z) nv nj (mTarget (kMs z) nj) (gL (kMs z) nv nj) i82 (fw2 (kMs z) nv nj i82) nv) := dbJ_s hz121
        exact K82 _ _ (by rw [e_13]; exact hP) (by rw [e_13]; exact hD) hS ls (lv_sub hl [0, 3, 4, 5, 6] rfl)
      · skip
        have hlt121 : i121 < nv := Nat.lt_of_not_le (fun q => c_10 ((nI_leI (a := nv) (b := i121) (by omega) (by omega)).mpr q))
        refine lv_iload hx hb dX5_fewest_132 (lv_at hl 1 rfl) ?_
        refine lv_bipush (v := (-9)) hx hb dX5_fewest_134 (by decide) ?_
        refine lv_icmp_eq (tgt := 197) hx hb dX5_fewest_136 (by decide) (fun c_14 => ?_) (fun c_14 => ?_)
        · skip
          have e9 : 0 = i121 := (hz121.resolve_right (fun h9 => h9 c_14)).symm
          subst e9
          refine lv_iinc (v := (nI (i82 + 1))) (lv' := [(4, .int (nI (i82 + 1))), (6, .int (nI 0)), (5, .int (mOf (kMs z) (nI i82) 2)), (3, .int 2), (2, .int (mTarget (kMs z) nj)), (0, .ref (q 0)), (1, .int p0)]) hx hb dX5_fewest_197 hl (k := 3) rfl (nI_1 i82) (by decide) rfl (fun ls hl => ?_)
          refine lv_goto (tgt := 82) hx hb dX5_fewest_200 (by decide) ?_
          have e_16 : (fw2 (kMs z) nv nj (i82 + 1)) = (dbK (kMs z) nv nj (mTarget (kMs z) nj) (gL (kMs z) nv nj) i82 (fw2 (kMs z) nv nj i82) 0) := dbJ_n c_14
          exact K82 _ _ (by rw [e_16]; exact hP) (by rw [e_16]; exact hD) hS ls (lv_sub hl [0, 3, 4, 5, 6] rfl)
        · skip
          refine lv_iload hx hb dX5_fewest_139 (lv_at hl 0 rfl) ?_
          refine lv_iload hx hb dX5_fewest_141 (lv_at hl 1 rfl) ?_
          refine lv_icmp_eq (tgt := 191) hx hb dX5_fewest_143 (by decide) (fun c_17 => ?_) (fun c_17 => ?_)
          · skip
            refine lv_iinc (v := (nI (i121 + 1))) (lv' := [(6, .int (nI (i121 + 1))), (5, .int (mOf (kMs z) (nI i82) 2)), (3, .int 2), (4, .int (nI i82)), (2, .int (mTarget (kMs z) nj)), (0, .ref (q 0)), (1, .int p0)]) hx hb dX5_fewest_191 hl (k := 0) rfl (nI_1 i121) (by decide) rfl (fun ls hl => ?_)
            refine lv_goto (tgt := 121) hx hb dX5_fewest_194 (by decide) ?_
            have e_18 : (dbK (kMs z) nv nj (mTarget (kMs z) nj) (gL (kMs z) nv nj) i82 (fw2 (kMs z) nv nj i82) (i121 + 1)) = (dbK (kMs z) nv nj (mTarget (kMs z) nj) (gL (kMs z) nv nj) i82 (fw2 (kMs z) nv nj i82) i121) := by first | rfl | (simp only [dbK, eq_false c_14, eq_false (Ne.symm c_14), eq_true c_17, eq_true (Eq.symm c_17), if_true, if_false, and_true, true_and, and_false, false_and, or_true, true_or, or_false, false_or, not_true_eq_false, not_false_eq_true, ne_eq, ite_true, ite_false]; done) | (simp only [dbK, eq_false c_14, eq_false (Ne.symm c_14), eq_true c_17, eq_true (Eq.symm c_17), if_true, if_false, and_true, true_and, and_false, false_and, or_true, true_or, or_false, false_or, not_true_eq_false, not_false_eq_true, ne_eq, ite_true, ite_false]; rfl)
            exact ih121 (i121 + 1) (by omega) (by omega) (by omega) (Or.inr c_14) _ _ (by rw [e_18]; exact hP) (by rw [e_18]; exact hD) hS ls (by exact lv_sub hl [0, 1, 2, 3, 4, 5, 6] rfl)
          · skip
            refine lv_aload_n hx hb dX5_fewest_146 rfl (lv_at hl 5 rfl) ?_
            refine lv_iload hx hb dX5_fewest_147 (lv_at hl 0 rfl) ?_
            refine pcV (rest := []) ⟨hx, hb, hml, hown, hts⟩ (c_X5_isOpen l G cI cQ q (uMcheap (uMloads z (gL (kMs z) nv nj)) (dbK (kMs z) nv nj (mTarget (kMs z) nj) (gL (kMs z) nv nj) i82 (fw2 (kMs z) nv nj i82) i121)) nv nj hm (nI i121)) (cwV 1 hts gX5_fewest_X5_isOpen rfl rfl rfl cd_X5_isOpen ⟨Nat.le_of_ble_eq_true rfl, Nat.le_of_ble_eq_true rfl⟩) hK hP [0, 1, 2, 3, 4, 5, 6] rfl 0 rfl rfl rfl rfl hl.1 rfl (Nat.le_of_ble_eq_true rfl) dX5_fewest_149 ⟨Nat.zero_le _, Nat.zero_le _⟩ ?_
            refine lv_if_eq (tgt := 191) hx hb dX5_fewest_152 (by decide) (fun c_19 => ?_) (fun c_19 => ?_)
            · skip
              have c_19 := bI_0.mp c_19
              refine lv_iinc (v := (nI (i121 + 1))) (lv' := [(6, .int (nI (i121 + 1))), (5, .int (mOf (kMs z) (nI i82) 2)), (3, .int 2), (4, .int (nI i82)), (2, .int (mTarget (kMs z) nj)), (0, .ref (q 0)), (1, .int p0)]) hx hb dX5_fewest_191 hl (k := 0) rfl (nI_1 i121) (by decide) rfl (fun ls hl => ?_)
              refine lv_goto (tgt := 121) hx hb dX5_fewest_194 (by decide) ?_
              have e_20 : (dbK (kMs z) nv nj (mTarget (kMs z) nj) (gL (kMs z) nv nj) i82 (fw2 (kMs z) nv nj i82) (i121 + 1)) = (dbK (kMs z) nv nj (mTarget (kMs z) nj) (gL (kMs z) nv nj) i82 (fw2 (kMs z) nv nj i82) i121) := by first | rfl | (simp only [dbK, eq_false c_14, eq_false (Ne.symm c_14), eq_false c_17, eq_false (Ne.symm c_17), eq_false c_19, if_true, if_false, and_true, true_and, and_false, false_and, or_true, true_or, or_false, false_or, not_true_eq_false, not_false_eq_true, ne_eq, ite_true, ite_false]; done) | (simp only [dbK, eq_false c_14, eq_false (Ne.symm c_14), eq_false c_17, eq_false (Ne.symm c_17), eq_false c_19, if_true, if_false, and_true, true_and, and_false, false_and, or_true, true_or, or_false, false_or, not_true_eq_false, not_false_eq_true, ne_eq, ite_true, ite_false]; rfl)
              exact ih121 (i121 + 1) (by omega) (by omega) (by omega) (Or.inr c_14) _ _ (by rw [e_20]; exact hP) (by rw [e_20]; exact hD) hS ls (by exact lv_sub hl [0, 1, 2, 3, 4, 5, 6] rfl)
            · skip
              have c_19 := bI_n0.mp c_19
              refine lv_aload_n hx hb dX5_fewest_155 rfl (lv_at hl 5 rfl) ?_
              refine lv_iload hx hb dX5_fewest_156 (lv_at hl 3 rfl) ?_
              refine lv_iload hx hb dX5_fewest_158 (lv_at hl 1 rfl) ?_
              refine lv_iload hx hb dX5_fewest_160 (lv_at hl 0 rfl) ?_
              refine mcVv (rest := []) (wr := []) ⟨hx, hb, hml, hown, hts⟩ (c_X5_loadsMove l G cI cQ q (uMcheap (uMloads z (gL (kMs z) nv nj)) (dbK (kMs z) nv nj (mTarget (kMs z) nj) (gL (kMs z) nv nj) i82 (fw2 (kMs z) nv nj i82) i121)) nv nj (MI_X _ _ hm) (nI i82) (mOf (kMs z) (nI i82) 2) (nI i121) (vp_in_nI (by have := hm.2.2.2; omega) (by decide)) (from_in hV hlt82 c_14) (vp_in_nI (by have := hm.2.1; omega) (by decide)) _) (cwV 3 hts gX5_fewest_X5_loadsMove rfl rfl rfl cd_X5_loadsMove ⟨Nat.le_of_ble_eq_true rfl, Nat.le_of_ble_eq_true rfl⟩) hK hP hD hS hA [0, 1, 2, 3, 4, 5, 6] [] rfl rfl (by decide) (by decide) (by decide) 0 rfl rfl rfl rfl hl.1 rfl (Nat.le_of_ble_eq_true rfl) dX5_fewest_162 ⟨Nat.zero_le _, Nat.zero_le _⟩ (fun _ H locs _ hP hD hS => ?_)
              rw [ls_X] at hP hD
              have hP : va_P G vwCl ((mdT cI q (uMcheap (uMloads z (lsMv (kMs z) (nI i82) (mOf (kMs z) (nI i82) 2) (nI i121) (gL (kMs z) nv nj))) (dbK (kMs z) nv nj (mTarget (kMs z) nj) (gL (kMs z) nv nj) i82 (fw2 (kMs z) nv nj i82) i121)))) H := hP
              have hD : va_D A ((mdT cI q (uMcheap (uMloads z (lsMv (kMs z) (nI i82) (mOf (kMs z) (nI i82) 2) (nI i121) (gL (kMs z) nv nj))) (dbK (kMs z) nv nj (mTarget (kMs z) nj) (gL (kMs z) nv nj) i82 (fw2 (kMs z) nv nj i82) i121)))) := hD
              refine lv_aload_n hx hb dX5_fewest_165 rfl (lv_at hl 5 rfl) ?_
              refine lv_iload hx hb dX5_fewest_166 (lv_at hl 3 rfl) ?_
              refine lv_iconst (v := 1) hx hb dX5_fewest_168 (by decide) ?_
              refine lv_iadd hx hb dX5_fewest_169 ?_
              refine lv_cvt (x := ((nI i82) + 1)) (y := (nI (i82 + 1))) (nI_1 _) ?_
              refine lv_aload_n hx hb dX5_fewest_170 rfl (lv_at hl 5 rfl) ?_
              refine lv_iload hx hb dX5_fewest_171 (lv_at hl 3 rfl) ?_
              refine lv_iconst (v := 1) hx hb dX5_fewest_173 (by decide) ?_
              refine pcV (rest := [.int (nI (i82 + 1)), .ref (q 0)]) ⟨hx, hb, hml, hown, hts⟩ (c_X5_ofS l G cI cQ q (uMcheap (uMloads z (lsMv (kMs z) (nI i82) (mOf (kMs z) (nI i82) 2) (nI i121) (gL (kMs z) nv nj))) (dbK (kMs z) nv nj (mTarget (kMs z) nj) (gL (kMs z) nv nj) i82 (fw2 (kMs z) nv nj i82) i121)) nv nj (kMs z) (s_X _ _ _) hm (nI i82) 1 (vp_in_nI (by have := hm.2.2.2; omega) (by decide)) (vp_in_nI (n := 1) (N := 4) (by decide) (by decide))) (cwV 2 hts gX5_fewest_X5_of rfl rfl rfl cd_X5_of ⟨Nat.le_of_ble_eq_true rfl, Nat.le_of_ble_eq_true rfl⟩) hK hP [0, 1, 2, 3, 4, 5, 6] rfl 0 rfl rfl rfl rfl hl.1 rfl (Nat.le_of_ble_eq_true rfl) dX5_fewest_174 ⟨Nat.zero_le _, Nat.zero_le _⟩ ?_
              refine lv_iload_n hx hb dX5_fewest_177 rfl (lv_at hl 4 rfl) ?_
              refine mcVv (rest := []) (wr := []) ⟨hx, hb, hml, hown, hts⟩ (c_X5_triesMoves l G cI cQ q (uMcheap (uMloads z (lsMv (kMs z) (nI i82) (mOf (kMs z) (nI i82) 2) (nI i121) (gL (kMs z) nv nj))) (dbK (kMs z) nv nj (mTarget (kMs z) nj) (gL (kMs z) nv nj) i82 (fw2 (kMs z) nv nj i82) i121)) nv nj (mV_X _ _ hV) (i82 + 1) (by omega) (mOf (kMs z) (nI i82) 1) (mTarget (kMs z) nj) _) (cwV 3 hts gX5_fewest_X5_triesMoves rfl rfl rfl cd_X5_triesMoves ⟨Nat.le_of_ble_eq_true rfl, Nat.le_of_ble_eq_true rfl⟩) hK hP hD hS hA [0, 1, 2, 3, 4, 5, 6] [] rfl rfl (by decide) (by decide) (by decide) 0 rfl rfl rfl rfl hl.1 rfl (Nat.le_of_ble_eq_true rfl) dX5_fewest_178 ⟨Nat.zero_le _, Nat.zero_le _⟩ (fun _ H locs _ hP hD hS => ?_)
              rw [tm_X] at hP hD
              have hP : va_P G vwCl ((mdT cI q (uMcheap (uMloads z (lsMv (kMs z) (nI i82) (mOf (kMs z) (nI i82) 2) (nI i121) (gL (kMs z) nv nj))) (tmJ (kMs z) nv (mTarget (kMs z) nj) (mOf (kMs z) (nI i82) 1) (lsMv (kMs z) (nI i82) (mOf (kMs z) (nI i82) 2) (nI i121) (gL (kMs z) nv nj)) (i82 + 1) (dbK (kMs z) nv nj (mTarget (kMs z) nj) (gL (kMs z) nv nj) i82 (fw2 (kMs z) nv nj i82) i121) nj)))) H := hP
              have hD : va_D A ((mdT cI q (uMcheap (uMloads z (lsMv (kMs z) (nI i82) (mOf (kMs z) (nI i82) 2) (nI i121) (gL (kMs z) nv nj))) (tmJ (kMs z) nv (mTarget (kMs z) nj) (mOf (kMs z) (nI i82) 1) (lsMv (kMs z) (nI i82) (mOf (kMs z) (nI i82) 2) (nI i121) (gL (kMs z) nv nj)) (i82 + 1) (dbK (kMs z) nv nj (mTarget (kMs z) nj) (gL (kMs z) nv nj) i82 (fw2 (kMs z) nv nj i82) i121) nj)))) := hD
              refine lv_aload_n hx hb dX5_fewest_181 rfl (lv_at hl 5 rfl) ?_
              refine lv_iload hx hb dX5_fewest_182 (lv_at hl 3 rfl) ?_
              refine lv_iload hx hb dX5_fewest_184 (lv_at hl 0 rfl) ?_
              refine lv_iload hx hb dX5_fewest_186 (lv_at hl 1 rfl) ?_
              refine mcVv (rest := []) (wr := []) ⟨hx, hb, hml, hown, hts⟩ (c_X5_loadsMove l G cI cQ q (uMcheap (uMloads z (lsMv (kMs z) (nI i82) (mOf (kMs z) (nI i82) 2) (nI i121) (gL (kMs z) nv nj))) (tmJ (kMs z) nv (mTarget (kMs z) nj) (mOf (kMs z) (nI i82) 1) (lsMv (kMs z) (nI i82) (mOf (kMs z) (nI i82) 2) (nI i121) (gL (kMs z) nv nj)) (i82 + 1) (dbK (kMs z) nv nj (mTarget (kMs z) nj) (gL (kMs z) nv nj) i82 (fw2 (kMs z) nv nj i82) i121) nj)) nv nj (MI_X _ _ hm) (nI i82) (nI i121) (mOf (kMs z) (nI i82) 2) (vp_in_nI (by have := hm.2.2.2; omega) (by decide)) (vp_in_nI (by have := hm.2.1; omega) (by decide)) (from_in hV hlt82 c_14) _) (cwV 3 hts gX5_fewest_X5_loadsMove rfl rfl rfl cd_X5_loadsMove ⟨Nat.le_of_ble_eq_true rfl, Nat.le_of_ble_eq_true rfl⟩) hK hP hD hS hA [0, 1, 2, 3, 4, 5, 6] [] rfl rfl (by decide) (by decide) (by decide) 0 rfl rfl rfl rfl hl.1 rfl (Nat.le_of_ble_eq_true rfl) dX5_fewest_188 ⟨Nat.zero_le _, Nat.zero_le _⟩ (fun _ H locs _ hP hD hS => ?_)
              rw [ls_X] at hP hD
              have hP : va_P G vwCl ((mdT cI q (uMcheap (uMloads z (lsMv (kMs z) (nI i82) (nI i121) (mOf (kMs z) (nI i82) 2) (lsMv (kMs z) (nI i82) (mOf (kMs z) (nI i82) 2) (nI i121) (gL (kMs z) nv nj)))) (tmJ (kMs z) nv (mTarget (kMs z) nj) (mOf (kMs z) (nI i82) 1) (lsMv (kMs z) (nI i82) (mOf (kMs z) (nI i82) 2) (nI i121) (gL (kMs z) nv nj)) (i82 + 1) (dbK (kMs z) nv nj (mTarget (kMs z) nj) (gL (kMs z) nv nj) i82 (fw2 (kMs z) nv nj i82) i121) nj)))) H := hP
              have hD : va_D A ((mdT cI q (uMcheap (uMloads z (lsMv (kMs z) (nI i82) (nI i121) (mOf (kMs z) (nI i82) 2) (lsMv (kMs z) (nI i82) (mOf (kMs z) (nI i82) 2) (nI i121) (gL (kMs z) nv nj)))) (tmJ (kMs z) nv (mTarget (kMs z) nj) (mOf (kMs z) (nI i82) 1) (lsMv (kMs z) (nI i82) (mOf (kMs z) (nI i82) 2) (nI i121) (gL (kMs z) nv nj)) (i82 + 1) (dbK (kMs z) nv nj (mTarget (kMs z) nj) (gL (kMs z) nv nj) i82 (fw2 (kMs z) nv nj i82) i121) nj)))) := hD
              have e130 : (lsMv (kMs z) (nI i82) (nI i121) (mOf (kMs z) (nI i82) 2) (lsMv (kMs z) (nI i82) (mOf (kMs z) (nI i82) 2) (nI i121) (gL (kMs z) nv nj))) = (gL (kMs z) nv nj) := ls_back (kMs z) _ (from_in hV hlt82 c_14) (vp_in_nI (by have := hm.2.1; omega) (by decide)) c_17
              rw [e130] at hP hD
              have hP : va_P G vwCl ((mdT cI q (uMcheap (uMloads z (gL (kMs z) nv nj)) (tmJ (kMs z) nv (mTarget (kMs z) nj) (mOf (kMs z) (nI i82) 1) (lsMv (kMs z) (nI i82) (mOf (kMs z) (nI i82) 2) (nI i121) (gL (kMs z) nv nj)) (i82 + 1) (dbK (kMs z) nv nj (mTarget (kMs z) nj) (gL (kMs z) nv nj) i82 (fw2 (kMs z) nv nj i82) i121) nj)))) H := hP
              have hD : va_D A ((mdT cI q (uMcheap (uMloads z (gL (kMs z) nv nj)) (tmJ (kMs z) nv (mTarget (kMs z) nj) (mOf (kMs z) (nI i82) 1) (lsMv (kMs z) (nI i82) (mOf (kMs z) (nI i82) 2) (nI i121) (gL (kMs z) nv nj)) (i82 + 1) (dbK (kMs z) nv nj (mTarget (kMs z) nj) (gL (kMs z) nv nj) i82 (fw2 (kMs z) nv nj i82) i121) nj)))) := hD
              refine lv_iinc (v := (nI (i121 + 1))) (lv' := [(6, .int (nI (i121 + 1))), (5, .int (mOf (kMs z) (nI i82) 2)), (3, .int 2), (4, .int (nI i82)), (2, .int (mTarget (kMs z) nj)), (0, .ref (q 0)), (1, .int p0)]) hx hb dX5_fewest_191 hl (k := 0) rfl (nI_1 i121) (by decide) rfl (fun ls hl => ?_)
              refine lv_goto (tgt := 121) hx hb dX5_fewest_194 (by decide) ?_
              have e_21 : (dbK (kMs z) nv nj (mTarget (kMs z) nj) (gL (kMs z) nv nj) i82 (fw2 (kMs z) nv nj i82) (i121 + 1)) = (tmJ (kMs z) nv (mTarget (kMs z) nj) (mOf (kMs z) (nI i82) 1) (lsMv (kMs z) (nI i82) (mOf (kMs z) (nI i82) 2) (nI i121) (gL (kMs z) nv nj)) (i82 + 1) (dbK (kMs z) nv nj (mTarget (kMs z) nj) (gL (kMs z) nv nj) i82 (fw2 (kMs z) nv nj i82) i121) nj) := by first | rfl | (simp only [dbK, eq_false c_14, eq_false (Ne.symm c_14), eq_false c_17, eq_false (Ne.symm c_17), eq_true c_19, if_true, if_false, and_true, true_and, and_false, false_and, or_true, true_or, or_false, false_or, not_true_eq_false, not_false_eq_true, ne_eq, ite_true, ite_false]; done) | (simp only [dbK, eq_false c_14, eq_false (Ne.symm c_14), eq_false c_17, eq_false (Ne.symm c_17), eq_true c_19, if_true, if_false, and_true, true_and, and_false, false_and, or_true, true_or, or_false, false_or, not_true_eq_false, not_false_eq_true, ne_eq, ite_true, ite_false]; rfl)
              exact ih121 (i121 + 1) (by omega) (by omega) (by omega) (Or.inr c_14) _ _ (by rw [e_21]; exact hP) (by rw [e_21]; exact hD) hS ls (by exact lv_sub hl [0, 1, 2, 3, 4, 5, 6] rfl)
  have e_22 : (nI 0) = 0 := by first | rfl | decide
  have e_23 : (dbK (kMs z) nv nj (mTarget (kMs z) nj) (gL (kMs z) nv nj) i82 (fw2 (kMs z) nv nj i82) 0) = (fw2 (kMs z) nv nj i82) := by rfl
  exact L121 (nv + 1) 0 (by omega) (by omega) (by omega) (Or.inl rfl) _ _ (by rw [e_23]; exact hP) (by rw [e_23]; exact hD) hS ls (by rw [e_22]; exact lv_sub hl [0, 1, 2, 3, 4, 5, 6] rfl)
def fwE (s : Nat → Int32) (nv nj : Nat) (V v3 : Int32) : Prop := (fw1 s nv nj = -9 ∧ V = fw2 s nv nj nj ∧ (v3 = 2 ∨ V = -9)) ∨ (¬ fw1 s nv nj = -9 ∧ V = fw1 s nv nj ∧ v3 = 1)
theorem fwE_r {s : Nat → Int32} {nv nj : Nat} {V v3 p0 : Int32} (c1 : pIn p0 0 1) (c2 : ¬ pMEven s nv nj) (h : fwE s nv nj V v3) : rMFew s nv nj p0 = if V = -9 then -9 else if p0 = 0 then v3 else V := by
  unfold rMFew
  rw [if_pos c1, if_neg c2]
  rcases h with ⟨a, b, d⟩ | ⟨a, b, d⟩
  · rw [if_pos a, ← b]
    by_cases g : V = -9
    · rw [if_pos g, if_pos g]
    · rw [if_neg g, if_neg g, d.resolve_right g]
  · rw [if_neg a, b, d, if_neg a]
theorem fwE_g {z : MS} {nv nj : Nat} {V v3 p0 : Int32} (c1 : pIn p0 0 1) (c2 : ¬ pMEven (kMs z) nv nj) (h : fwE (kMs z) nv nj V v3) : gMFew z nv nj p0 = uMcheap (uMloads z (gL (kMs z) nv nj)) V := by
  unfold gMFew
  rw [if_pos c1, if_neg c2]
  rcases h with ⟨a, b, d⟩ | ⟨a, b, d⟩
  · rw [if_pos a, b]
  · rw [if_neg a, b]
theorem fw2_0 (s : Nat → Int32) (nv nj : Nat) : fw2 s nv nj 0 = fw1 s nv nj := rfl
theorem fw2_t (s : Nat → Int32) (nv nj : Nat) : fw2 s nv nj 0 = tmJ s nv (mTarget s nj) 0 (gL s nv nj) 0 (-9) nj := rfl
theorem f_nI0 : nI 0 = 0 := rfl
theorem f_if0 : (if (0 : Nat) = 0 then (1 : Int32) else 2) = 1 := rfl
theorem fwE_x {s : Nat → Int32} {nv nj : Nat} (h : nj = 0 ∨ fw1 s nv nj = -9) : fwE s nv nj (fw2 s nv nj nj) (if nj = 0 then (1 : Int32) else 2) := by
  refine Or.inl ⟨fw_c1 h, rfl, ?_⟩
  by_cases g : nj = 0
  · right
    have e := fw_c1 h
    subst g
    exact e
  · left
    exact if_neg g
set_option maxHeartbeats 4000000 in
set_option maxRecDepth 100000 in
theorem few_tail (l : Launch) {G : va_G} {cI cQ : ClassId} {q : Nat → Nat} {z : MS} {nv nj : Nat} {p0 : Int32} {p : Program} {e : Env} {s : State} {m : MethodId} {below : List Frame} {meth : Method} {cd : Code} {A : Nat → Prop} (hx : p.tables.exec = Jvm.exec) (hb : cd.code = cX5_fewest) (hts : ∀ w ∈ wsX5_fewest, w.before ([.ref (q 0), .int p0] : List Value).toArray s = true) (hown : s.vm.findClass RX5 = some m.cls) (hml : cd.maxLocals = 7) (hA : ∀ q, s.heap.size ≤ q → A q) (hK : SF G cI cQ s) (hr : meth.sig.returnType = some .int) (hlocks : meth.locks = false) {V v3 LX : Int32} (hr1 : rMFew (kMs z) nv nj p0 = if V = -9 then -9 else if p0 = 0 then v3 else V) (hg : gMFew z nv nj p0 = (uMcheap (uMloads z (gL (kMs z) nv nj)) V))
    {H : Heap} {locs : List Loc} (hP : va_P G vwCl (mdT cI q (uMcheap (uMloads z (gL (kMs z) nv nj)) V)) H) (hD : va_D A (mdT cI q (uMcheap (uMloads z (gL (kMs z) nv nj)) V))) (hS : va_S A s.heap H locs) {ls : Array Slot} (hl : lv_has ls 7 [(4, .int LX), (3, .int v3), (2, .int (mTarget (kMs z) nj)), (0, .ref (q 0)), (1, .int p0)]) : W p l e ({ frames := 6, cells := 0, slots := 0, locals := 127 } : Room) s m ([.ref (q 0), .int p0] : List Value).toArray below meth cd H locs 0 0 (MQ below (va_Qi (fun (r : Int32) (_ : Unit) => r = (rMFew (kMs z) nv nj p0)) (mB G (A) (fun _ => (mdT cI q (gMFew z nv nj p0)))) (A)) ([.ref (q 0), .int p0] : List Value).toArray s 0 0 A) (F0 m 203 ls []) := by
  refine lv_aload_n hx hb dX5_fewest_203 rfl (lv_at hl 3 rfl) ?_
  refine va_get (D := G) (ci := 5) (v := .int V) (C := RX5) (T := TX5) (N := 15) hx hb hts in_X5_fewest_X5 hown hK.1 hP 0 rfl rfl 14 (by decide) (hts _ lk_X5_fewest_3) (fun _ h9 => h9) rfl dX5_fewest_204 ?_
  refine lv_bipush (v := (-9)) hx hb dX5_fewest_207 (by decide) ?_
  refine lv_icmp_ne (tgt := 217) hx hb dX5_fewest_209 (by decide) (fun c_7 => ?_) (fun c_7 => ?_)
  · skip
    refine lv_iload_n hx hb dX5_fewest_217 rfl (lv_at hl 4 rfl) ?_
    refine lv_if_ne (tgt := 225) hx hb dX5_fewest_218 (by decide) (fun c_8 => ?_) (fun c_8 => ?_)
    · skip
      refine lv_aload_n hx hb dX5_fewest_225 rfl (lv_at hl 3 rfl) ?_
      refine va_get (D := G) (ci := 5) (v := .int V) (C := RX5) (T := TX5) (N := 15) hx hb hts in_X5_fewest_X5 hown hK.1 hP 0 rfl rfl 14 (by decide) (hts _ lk_X5_fewest_3) (fun _ h9 => h9) rfl dX5_fewest_226 ?_
      exact m_ret () hx hb hr hlocks rfl (by rw [hr1, if_neg c_7, if_neg c_8]) (by rw [hg]; exact hP) (by rw [hg]; exact hD) hS dX5_fewest_229
    · skip
      refine lv_iload_n hx hb dX5_fewest_221 rfl (lv_at hl 1 rfl) ?_
      refine lv_goto (tgt := 229) hx hb dX5_fewest_222 (by decide) ?_
      exact m_ret () hx hb hr hlocks rfl (by rw [hr1, if_neg c_7, if_pos c_8]) (by rw [hg]; exact hP) (by rw [hg]; exact hD) hS dX5_fewest_229
  · skip
    refine lv_bipush (v := (-9)) hx hb dX5_fewest_212 (by decide) ?_
    refine lv_goto (tgt := 229) hx hb dX5_fewest_214 (by decide) ?_
    exact m_ret () hx hb hr hlocks rfl (by rw [hr1, if_pos c_7]) (by rw [hg]; exact hP) (by rw [hg]; exact hD) hS dX5_fewest_229
set_option maxHeartbeats 4000000 in
set_option maxRecDepth 100000 in
theorem few_loop (l : Launch) {G : va_G} {cI cQ : ClassId} {q : Nat → Nat} {z : MS} {nv nj : Nat} {p0 : Int32} {p : Program} {e : Env} {s : State} {m : MethodId} {below : List Frame} {meth : Method} {cd : Code} {A : Nat → Prop} {Q : State → Prop} (hV : mV (kMs z) nv nj) (hx : p.tables.exec = Jvm.exec) (hb : cd.code = cX5_fewest) (hts : ∀ w ∈ wsX5_fewest, w.before ([.ref (q 0), .int p0] : List Value).toArray s = true) (hown : s.vm.findClass RX5 = some m.cls) (hml : cd.maxLocals = 7) (hA : ∀ q, s.heap.size ≤ q → A q) (hK : SF G cI cQ s)
    (T203 : ∀ (V v3 LX : Int32), fwE (kMs z) nv nj V v3 → ∀ (H : Heap) (locs : List Loc), va_P G vwCl (mdT cI q (uMcheap (uMloads z (gL (kMs z) nv nj)) V)) H → va_D A (mdT cI q (uMcheap (uMloads z (gL (kMs z) nv nj)) V)) → va_S A s.heap H locs → ∀ (ls : Array Slot), lv_has ls 7 [(4, .int LX), (3, .int v3), (2, .int (mTarget (kMs z) nj)), (0, .ref (q 0)), (1, .int p0)] → W p l e ({ frames := 6, cells := 0, slots := 0, locals := 127 } : Room) s m ([.ref (q 0), .int p0] : List Value).toArray below meth cd H locs 0 0 Q (F0 m 203 ls [])) :
    ∀ (n82 i82 : Nat), i82 ≤ nj → nj + 1 ≤ i82 + n82 → (i82 = 0 ∨ fw1 (kMs z) nv nj = -9) → ∀ (H : Heap) (locs : List Loc), va_P G vwCl (mdT cI q (uMcheap (uMloads z (gL (kMs z) nv nj)) (fw2 (kMs z) nv nj i82))) H → va_D A (mdT cI q (uMcheap (uMloads z (gL (kMs z) nv nj)) (fw2 (kMs z) nv nj i82))) → va_S A s.heap H locs → ∀ (ls : Array Slot), lv_has ls 7 [(4, .int (nI i82)), (3, .int (if i82 = 0 then (1 : Int32) else 2)), (2, .int (mTarget (kMs z) nj)), (0, .ref (q 0)), (1, .int p0)] → W p l e ({ frames := 6, cells := 0, slots := 0, locals := 127 } : Room) s m ([.ref (q 0), .int p0] : List Value).toArray below meth cd H locs 0 0 Q (F0 m 82 ls []) := by
  have hm := hV.1
  intro n82
  induction n82 with
  | zero => intro i82 h1 h2; exact absurd h2 (by omega)
  | succ n82 ih82 =>
    intro i82 hle82 hin82 hc82 H locs hP hD hS ls hl
    have hnj := hm.2.2.2
    have hnv := hm.2.1
    refine lv_iload hx hb dX5_fewest_82 (lv_at hl 0 rfl) ?_
    refine lv_aload_n hx hb dX5_fewest_84 rfl (lv_at hl 3 rfl) ?_
    refine va_get (D := G) (ci := 5) (v := .ref (q 1)) (C := RX5) (T := TX5) (N := 15) hx hb hts in_X5_fewest_X5 hown hK.1 hP 0 rfl rfl 0 (by decide) (hts _ lk_X5_fewest_2) (fun _ h9 => h9) rfl dX5_fewest_85 ?_
    refine lv_iconst (v := 2) hx hb dX5_fewest_88 (by decide) ?_
    refine iald_n hx hb hK hP 1 rfl 2 rfl (by decide) (by decide) dX5_fewest_89 ?_
    refine lv_cvt (y := (nI nj)) (hm).2.2.1 ?_
    refine lv_icmp_ge (tgt := 203) hx hb dX5_fewest_90 (by decide) (fun c_5 => ?_) (fun c_5 => ?_)
    · skip
      have q_6 : i82 = nj := by have h9 := (nI_leI (a := nj) (b := i82) (by omega) (by omega)).mp c_5; omega
      subst q_6
      exact T203 _ _ _ (fwE_x hc82) _ _ hP hD hS ls hl
    · skip
      have hlt82 : i82 < nj := Nat.lt_of_not_le (fun q => c_5 ((nI_leI (a := nj) (b := i82) (by omega) (by omega)).mpr q))
      have K82 : ∀ (H : Heap) (locs : List Loc), fw1 (kMs z) nv nj = -9 → va_P G vwCl (mdT cI q (uMcheap (uMloads z (gL (kMs z) nv nj)) (fw2 (kMs z) nv nj (i82 + 1)))) H → va_D A (mdT cI q (uMcheap (uMloads z (gL (kMs z) nv nj)) (fw2 (kMs z) nv nj (i82 + 1)))) → va_S A s.heap H locs → ∀ (ls : Array Slot), lv_has ls 7 [(4, .int (nI (i82 + 1))), (3, .int 2), (2, .int (mTarget (kMs z) nj)), (0, .ref (q 0)), (1, .int p0)] → W p l e ({ frames := 6, cells := 0, slots := 0, locals := 127 } : Room) s m ([.ref (q 0), .int p0] : List Value).toArray below meth cd H locs 0 0 Q (F0 m 82 ls []) := fun H locs hc1 hP hD hS ls hl => ih82 (i82 + 1) (by omega) (by omega) (Or.inr hc1) _ _ hP hD hS ls (by rw [if_neg (Nat.succ_ne_zero i82)]; exact hl)
      refine lv_iload_n hx hb dX5_fewest_93 rfl (lv_at hl 1 rfl) ?_
      refine lv_iconst (v := 2) hx hb dX5_fewest_94 (by decide) ?_
      refine lv_icmp_eq (tgt := 107) hx hb dX5_fewest_95 (by decide) (fun c_9 => ?_) (fun c_9 => ?_)
      · skip
        have hi0 : ¬ i82 = 0 := fun h9 => absurd c_9 (by rw [if_pos h9]; decide)
        have hc1 : fw1 (kMs z) nv nj = -9 := hc82.resolve_left hi0
        exact few_body l hV hx hb hts hown hml hA hK hlt82 (fun H locs hP hD hS ls hl => K82 H locs hc1 hP hD hS ls hl) hP hD hS hl
      · skip
        have hi0 : i82 = 0 := Decidable.byContradiction (fun h9 => c_9 (if_neg h9))
        refine lv_aload_n hx hb dX5_fewest_98 rfl (lv_at hl 3 rfl) ?_
        refine va_get (D := G) (ci := 5) (v := .int (fw2 (kMs z) nv nj i82)) (C := RX5) (T := TX5) (N := 15) hx hb hts in_X5_fewest_X5 hown hK.1 hP 0 rfl rfl 14 (by decide) (hts _ lk_X5_fewest_3) (fun _ h9 => h9) rfl dX5_fewest_99 ?_
        refine lv_bipush (v := (-9)) hx hb dX5_fewest_102 (by decide) ?_
        refine lv_icmp_ne (tgt := 203) hx hb dX5_fewest_104 (by decide) (fun c_24 => ?_) (fun c_24 => ?_)
        · skip
          have hc0 : ¬ fw1 (kMs z) nv nj = -9 := by rw [hi0] at c_24; exact c_24
          exact T203 _ _ _ (Or.inr ⟨hc0, by rw [hi0]; rfl, if_pos hi0⟩) _ _ hP hD hS ls hl
        · skip
          have hc1 : fw1 (kMs z) nv nj = -9 := by rw [hi0] at c_24; exact c_24
          exact few_body l hV hx hb hts hown hml hA hK hlt82 (fun H locs hP hD hS ls hl => K82 H locs hc1 hP hD hS ls hl) hP hD hS hl
set_option maxHeartbeats 4000000 in
set_option maxRecDepth 100000 in
theorem few_mid (l : Launch) {G : va_G} {cI cQ : ClassId} {q : Nat → Nat} {z : MS} {nv nj : Nat} {p0 : Int32} {p : Program} {e : Env} {s : State} {m : MethodId} {below : List Frame} {meth : Method} {cd : Code} {A : Nat → Prop} {Q : State → Prop} {g : Nat → Int32} (hV : mV (kMs z) nv nj) (hx : p.tables.exec = Jvm.exec) (hb : cd.code = cX5_fewest) (hts : ∀ w ∈ wsX5_fewest, w.before ([.ref (q 0), .int p0] : List Value).toArray s = true) (hown : s.vm.findClass RX5 = some m.cls) (hml : cd.maxLocals = 7) (hA : ∀ q, s.heap.size ≤ q → A q) (hK : SF G cI cQ s)
    (K82 : ∀ (H : Heap) (locs : List Loc), va_P G vwCl (mdT cI q (uMcheap (uMloads z g) (tmJ (kMs z) nv (mTarget (kMs z) nj) 0 g 0 (-9) nj))) H → va_D A (mdT cI q (uMcheap (uMloads z g) (tmJ (kMs z) nv (mTarget (kMs z) nj) 0 g 0 (-9) nj))) → va_S A s.heap H locs → ∀ (ls : Array Slot), lv_has ls 7 [(4, .int 0), (3, .int 1), (2, .int (mTarget (kMs z) nj)), (0, .ref (q 0)), (1, .int p0)] → W p l e ({ frames := 6, cells := 0, slots := 0, locals := 127 } : Room) s m ([.ref (q 0), .int p0] : List Value).toArray below meth cd H locs 0 0 Q (F0 m 82 ls []))
    {H : Heap} {locs : List Loc} (hP : va_P G vwCl (mdT cI q (uMloads z g)) H) (hD : va_D A (mdT cI q (uMloads z g))) (hS : va_S A s.heap H locs) {ls : Array Slot} (hl : lv_has ls 7 [(3, .int (nI 6)), (2, .int (mTarget (kMs z) nj)), (0, .ref (q 0)), (1, .int p0)]) : W p l e ({ frames := 6, cells := 0, slots := 0, locals := 127 } : Room) s m ([.ref (q 0), .int p0] : List Value).toArray below meth cd H locs 0 0 Q (F0 m 64 ls []) := by
  have hm := hV.1
  refine lv_aload_n hx hb dX5_fewest_64 rfl (lv_at hl 2 rfl) ?_
  refine lv_bipush (v := (-9)) hx hb dX5_fewest_65 (by decide) ?_
  refine va_put (D := G) (ci := 5) (v := .int (-9)) (ty := .int) (C := RX5) (T := TX5) (N := 15) hx hb hts in_X5_fewest_X5 tyX5 tyX5_ok nmX5 hown hK.1 hP hD hS 0 rfl rfl 14 (by decide) (hts _ lk_X5_fewest_3) (fun _ h9 => h9) rfl (by decide +kernel) rfl rfl (Nat.le_of_ble_eq_true rfl) dX5_fewest_67 (fun H locs hP hD hS => ?_)
  have hP : va_P G vwCl ((mdT cI q (uMcheap (uMloads z g) (-9)))) H := hP
  have hD : va_D A ((mdT cI q (uMcheap (uMloads z g) (-9)))) := hD
  refine lv_aload_n hx hb dX5_fewest_70 rfl (lv_at hl 2 rfl) ?_
  refine lv_iconst (v := 0) hx hb dX5_fewest_71 (by decide) ?_
  refine lv_cvt (x := 0) (y := (nI 0)) (rfl) ?_
  refine lv_iconst (v := 0) hx hb dX5_fewest_72 (by decide) ?_
  refine lv_iload_n hx hb dX5_fewest_73 rfl (lv_at hl 1 rfl) ?_
  refine mcVv (rest := []) (wr := []) ⟨hx, hb, hml, hown, hts⟩ (c_X5_triesMoves l G cI cQ q (uMcheap (uMloads z g) (-9)) nv nj (mV_X _ _ hV) 0 (Nat.zero_le _) 0 (mTarget (kMs z) nj) _) (cwV 3 hts gX5_fewest_X5_triesMoves rfl rfl rfl cd_X5_triesMoves ⟨Nat.le_of_ble_eq_true rfl, Nat.le_of_ble_eq_true rfl⟩) hK hP hD hS hA [0, 1, 2, 3, 4, 5, 6] [] rfl rfl (by decide) (by decide) (by decide) 0 rfl rfl rfl rfl hl.1 rfl (Nat.le_of_ble_eq_true rfl) dX5_fewest_74 ⟨Nat.zero_le _, Nat.zero_le _⟩ (fun _ H locs _ hP hD hS => ?_)
  rw [tm_X] at hP hD
  have hP : va_P G vwCl ((mdT cI q (uMcheap (uMloads z g) (tmJ (kMs z) nv (mTarget (kMs z) nj) 0 g 0 (-9) nj)))) H := hP
  have hD : va_D A ((mdT cI q (uMcheap (uMloads z g) (tmJ (kMs z) nv (mTarget (kMs z) nj) 0 g 0 (-9) nj)))) := hD
  refine lv_iconst (v := 1) hx hb dX5_fewest_77 (by decide) ?_
  refine lv_istore_n (lv' := [(3, .int 1), (2, .int (mTarget (kMs z) nj)), (0, .ref (q 0)), (1, .int p0)]) hx hb dX5_fewest_78 rfl hl (by decide) rfl (fun ls hl => ?_)
  refine lv_iconst (v := 0) hx hb dX5_fewest_79 (by decide) ?_
  refine lv_istore (lv' := [(4, .int 0), (3, .int 1), (2, .int (mTarget (kMs z) nj)), (0, .ref (q 0)), (1, .int p0)]) hx hb dX5_fewest_80 hl (by decide) rfl (fun ls hl => ?_)
  exact K82 _ _ hP hD hS ls hl
theorem few_arr {G : va_G} {cI : ClassId} {q : Nat → Nat} {z : MS} {A B : Nat → Int32} {H : Heap} (hP : va_P G vwCl (mdT cI q (uMloads z A)) H) (h : ∀ j, j < 6 → A j = B j) : va_P G vwCl (mdT cI q (uMloads z B)) H := hP.arr 6 (f := A) (g := B) rfl h
theorem few_dom {cI : ClassId} {q : Nat → Nat} {z : MS} {A B : Nat → Int32} {A0 : Nat → Prop} (hD : va_D A0 (mdT cI q (uMloads z A))) : va_D A0 (mdT cI q (uMloads z B)) := hD.set (p := 6) (e := .inl (cI, 6, .inl B)) rfl
theorem few_set {G : va_G} {cI : ClassId} {q : Nat → Nat} {z : MS} {A B : Nat → Int32} {H : Heap} (hP : va_P G vwCl ((mdT cI q (uMloads z A)).set 6 (q 6, .inl (cI, 6, .inl B))) H) : va_P G vwCl (mdT cI q (uMloads z B)) H := hP
theorem few_setd {cI : ClassId} {q : Nat → Nat} {z : MS} {A B : Nat → Int32} {A0 : Nat → Prop} (hD : va_D A0 ((mdT cI q (uMloads z A)).set 6 (q 6, .inl (cI, 6, .inl B)))) : va_D A0 (mdT cI q (uMloads z B)) := hD
theorem few_ld (s : Nat → Int32) (z : MS) (F : Nat → Int32) (nj : Nat) (k : Int32) : mLoad (kMs (uMloads z F)) nj k = mLoad (kMs z) nj k := rfl
set_option maxHeartbeats 4000000 in
set_option maxRecDepth 100000 in
theorem few_b27 (l : Launch) {G : va_G} {cI cQ : ClassId} {q : Nat → Nat} {z : MS} {nv nj : Nat} {p0 : Int32} {p : Program} {e : Env} {s : State} {m : MethodId} {below : List Frame} {meth : Method} {cd : Code} {A : Nat → Prop} {Q : State → Prop} (hm : MI (kMs z) nv nj) (hx : p.tables.exec = Jvm.exec) (hb : cd.code = cX5_fewest) (hts : ∀ w ∈ wsX5_fewest, w.before ([.ref (q 0), .int p0] : List Value).toArray s = true) (hown : s.vm.findClass RX5 = some m.cls) (hml : cd.maxLocals = 7) (hA : ∀ q, s.heap.size ≤ q → A q) (hK : SF G cI cQ s) {F : Nat → Int32} {i27 : Nat} (hlt27 : i27 < 6)
    (K27 : ∀ (V : Int32) (H : Heap) (locs : List Loc), V = gL (kMs z) nv nj i27 → va_P G vwCl (mdT cI q (uMloads z (upd F i27 V))) H → va_D A (mdT cI q (uMloads z (upd F i27 V))) → va_S A s.heap H locs → ∀ (ls : Array Slot), lv_has ls 7 [(3, .int (nI (i27 + 1))), (2, .int (mTarget (kMs z) nj)), (0, .ref (q 0)), (1, .int p0)] → W p l e ({ frames := 6, cells := 0, slots := 0, locals := 127 } : Room) s m ([.ref (q 0), .int p0] : List Value).toArray below meth cd H locs 0 0 Q (F0 m 27 ls []))
    {H : Heap} {locs : List Loc} (hP : va_P G vwCl (mdT cI q (uMloads z F)) H) (hD : va_D A (mdT cI q (uMloads z F))) (hS : va_S A s.heap H locs) {ls : Array Slot} (hl : lv_has ls 7 [(3, .int (nI i27)), (2, .int (mTarget (kMs z) nj)), (0, .ref (q 0)), (1, .int p0)]) : W p l e ({ frames := 6, cells := 0, slots := 0, locals := 127 } : Room) s m ([.ref (q 0), .int p0] : List Value).toArray below meth cd H locs 0 0 Q (F0 m 33 ls []) := by
  have hnj := hm.2.2.2
  have hnv := hm.2.1
  refine lv_aload_n hx hb dX5_fewest_33 rfl (lv_at hl 2 rfl) ?_
  refine va_get (D := G) (ci := 5) (v := .ref (q 6)) (C := RX5) (T := TX5) (N := 15) hx hb hts in_X5_fewest_X5 hown hK.1 hP 0 rfl rfl 13 (by decide) (hts _ lk_X5_fewest_1) (fun _ h9 => h9) rfl dX5_fewest_34 ?_
  refine lv_iload_n hx hb dX5_fewest_37 rfl (lv_at hl 0 rfl) ?_
  refine lv_iload_n hx hb dX5_fewest_38 rfl (lv_at hl 0 rfl) ?_
  refine lv_aload_n hx hb dX5_fewest_39 rfl (lv_at hl 2 rfl) ?_
  refine va_get (D := G) (ci := 5) (v := .ref (q 1)) (C := RX5) (T := TX5) (N := 15) hx hb hts in_X5_fewest_X5 hown hK.1 hP 0 rfl rfl 0 (by decide) (hts _ lk_X5_fewest_2) (fun _ h9 => h9) rfl dX5_fewest_40 ?_
  refine lv_iconst (v := 0) hx hb dX5_fewest_43 (by decide) ?_
  refine iald_n hx hb hK hP 1 rfl 0 rfl (by decide) (by decide) dX5_fewest_44 ?_
  refine lv_cvt (y := (nI nv)) (hm).1 ?_
  refine lv_icmp_ge (tgt := 56) hx hb dX5_fewest_45 (by decide) (fun c_44 => ?_) (fun c_44 => ?_)
  · skip
    refine lv_iconst (v := 0) hx hb dX5_fewest_56 (by decide) ?_
    refine iast_n hx hb hK hP hD hS 6 rfl i27 rfl (by omega) (by decide) dX5_fewest_57 (fun H locs hP hD hS => ?_)
    have hP := few_set (B := (upd F i27 0)) hP
    have hD := few_setd (B := (upd F i27 0)) hD
    refine lv_iinc (v := (nI (i27 + 1))) (lv' := [(3, .int (nI (i27 + 1))), (2, .int (mTarget (kMs z) nj)), (0, .ref (q 0)), (1, .int p0)]) hx hb dX5_fewest_58 hl (k := 0) rfl (nI_1 i27) (by decide) rfl (fun ls hl => ?_)
    refine lv_goto (tgt := 27) hx hb dX5_fewest_61 (by decide) ?_
    exact K27 _ _ _ (by unfold gL; rw [if_pos c_44]) hP hD hS ls (by exact lv_sub hl [0, 1, 2, 3] rfl)
  · skip
    refine lv_aload_n hx hb dX5_fewest_48 rfl (lv_at hl 2 rfl) ?_
    refine lv_iload_n hx hb dX5_fewest_49 rfl (lv_at hl 0 rfl) ?_
    refine pcV (rest := [.int (nI i27), .ref (q 6)]) ⟨hx, hb, hml, hown, hts⟩ (c_X5_load l G cI cQ q (uMloads z F) nv nj hm (nI i27)) (cwV 1 hts gX5_fewest_X5_load rfl rfl rfl cd_X5_load ⟨Nat.le_of_ble_eq_true rfl, Nat.le_of_ble_eq_true rfl⟩) hK hP [0, 1, 2, 3, 4, 5, 6] rfl 0 rfl rfl rfl rfl hl.1 rfl (Nat.le_of_ble_eq_true rfl) dX5_fewest_50 ⟨Nat.zero_le _, Nat.zero_le _⟩ ?_
    refine lv_goto (tgt := 57) hx hb dX5_fewest_53 (by decide) ?_
    refine iast_n hx hb hK hP hD hS 6 rfl i27 rfl (by omega) (by decide) dX5_fewest_57 (fun H locs hP hD hS => ?_)
    have hP := few_set (B := (upd F i27 (mLoad (kMs z) nj (nI i27)))) hP
    have hD := few_setd (B := (upd F i27 (mLoad (kMs z) nj (nI i27)))) hD
    refine lv_iinc (v := (nI (i27 + 1))) (lv' := [(3, .int (nI (i27 + 1))), (2, .int (mTarget (kMs z) nj)), (0, .ref (q 0)), (1, .int p0)]) hx hb dX5_fewest_58 hl (k := 0) rfl (nI_1 i27) (by decide) rfl (fun ls hl => ?_)
    refine lv_goto (tgt := 27) hx hb dX5_fewest_61 (by decide) ?_
    exact K27 _ _ _ (by unfold gL; rw [if_neg c_44]) hP hD hS ls (by exact lv_sub hl [0, 1, 2, 3] rfl)
set_option maxHeartbeats 4000000 in
set_option maxRecDepth 100000 in
theorem few_l27 (l : Launch) {G : va_G} {cI cQ : ClassId} {q : Nat → Nat} {z : MS} {nv nj : Nat} {p0 : Int32} {p : Program} {e : Env} {s : State} {m : MethodId} {below : List Frame} {meth : Method} {cd : Code} {A : Nat → Prop} {Q : State → Prop} (hm : MI (kMs z) nv nj) (c_1 : pIn p0 0 1) (c_2 : ¬ pMEven (kMs z) nv nj) (hx : p.tables.exec = Jvm.exec) (hb : cd.code = cX5_fewest) (hts : ∀ w ∈ wsX5_fewest, w.before ([.ref (q 0), .int p0] : List Value).toArray s = true) (hown : s.vm.findClass RX5 = some m.cls) (hml : cd.maxLocals = 7) (hA : ∀ q, s.heap.size ≤ q → A q) (hK : SF G cI cQ s)
    (K64 : ∀ (H : Heap) (locs : List Loc), va_P G vwCl (mdT cI q (uMloads z (gL (kMs z) nv nj))) H → va_D A (mdT cI q (uMloads z (gL (kMs z) nv nj))) → va_S A s.heap H locs → ∀ (ls : Array Slot), lv_has ls 7 [(3, .int (nI 6)), (2, .int (mTarget (kMs z) nj)), (0, .ref (q 0)), (1, .int p0)] → W p l e ({ frames := 6, cells := 0, slots := 0, locals := 127 } : Room) s m ([.ref (q 0), .int p0] : List Value).toArray below meth cd H locs 0 0 Q (F0 m 64 ls [])) :
    ∀ (n27 i27 : Nat), 0 ≤ i27 → i27 ≤ 6 → 6 + 1 ≤ i27 + n27 → ∀ (H : Heap) (locs : List Loc), va_P G vwCl (mdT cI q (uMloads z (cpF (gL (kMs z) nv nj) (kMloads z) i27))) H → va_D A (mdT cI q (uMloads z (cpF (gL (kMs z) nv nj) (kMloads z) i27))) → va_S A s.heap H locs → ∀ (ls : Array Slot), lv_has ls 7 [(3, .int (nI i27)), (2, .int (mTarget (kMs z) nj)), (0, .ref (q 0)), (1, .int p0)] → W p l e ({ frames := 6, cells := 0, slots := 0, locals := 127 } : Room) s m ([.ref (q 0), .int p0] : List Value).toArray below meth cd H locs 0 0 Q (F0 m 27 ls []) := by
    intro n27
    induction n27 with
    | zero => intro i27 h0 h1 h2; exact absurd h2 (by omega)
    | succ n27 ih27 =>
      intro i27 hlo27 hle27 hin27 H locs hP hD hS ls hl
      have hnj := hm.2.2.2
      have hnv := hm.2.1
      refine lv_iload_n hx hb dX5_fewest_27 rfl (lv_at hl 0 rfl) ?_
      refine lv_bipush (v := 6) hx hb dX5_fewest_28 (by decide) ?_
      refine lv_icmp_ge (tgt := 64) hx hb dX5_fewest_30 (by decide) (fun c_3 => ?_) (fun c_3 => ?_)
      · skip
        have q_4 : 6 = i27 := by have h9 := (nI_leI (a := 6) (b := i27) (by omega) (by omega)).mp c_3; omega
        subst q_4
        have hP := few_arr (B := gL (kMs z) nv nj) hP (fun j hj => by simp only [cpF]; rw [if_pos hj])
        have hD := few_dom (B := gL (kMs z) nv nj) hD
        exact K64 _ _ hP hD hS ls hl
      · skip
        have hlt27 : i27 < 6 := Nat.lt_of_not_le (fun q => c_3 ((nI_leI (a := 6) (b := i27) (by omega) (by omega)).mpr q))
        exact few_b27 l hm hx hb hts hown hml hA hK hlt27 (fun V H locs h9 hP hD hS ls hl => ih27 (i27 + 1) (by omega) (by omega) (by omega) _ _ (by rw [cpF_s, ← h9]; exact hP) (by rw [cpF_s, ← h9]; exact hD) hS ls hl) hP hD hS hl
set_option maxHeartbeats 4000000 in
set_option maxRecDepth 100000 in
theorem c_X5_fewest (l : Launch) (G : va_G) (cI cQ : ClassId) (q : Nat → Nat) (z : MS) (nv nj : Nat) (hV : mV (kMs z) nv nj) (p0 : Int32) (sz0 : Nat) : Met l yX5_fewest wsX5_fewest ({ frames := 6, cells := 0, slots := 0, locals := 127 } : Room) (mPc G cI cQ [.ref (q 0), .int p0] ((mdT cI q z)) sz0) (va_Qi (fun (r : Int32) (_ : Unit) => r = (rMFew (kMs z) nv nj p0)) (mB G (va_A ((mdT cI q z)) sz0) (fun _ => (mdT cI q (gMFew z nv nj p0)))) (va_A ((mdT cI q z)) sz0)) 0 0 (va_A ((mdT cI q z)) sz0) := by
  refine mm_of (cc := cX5_fewest) (maxL := 7) (ret := (some .int)) (own := RX5) (by decide) rfl rfl (Nat.le_of_ble_eq_true rfl) rfl ?_
  intro p e s m below meth cd ls A hx hb hr hts hown hlocks hml hA hK hP hD hS hl
  have hm := hV.1
  refine lv_iload_n hx hb dX5_fewest_0 rfl (lv_at hl 1 rfl) ?_
  refine lv_iconst (v := 0) hx hb dX5_fewest_1 (by decide) ?_
  refine lv_iconst (v := 1) hx hb dX5_fewest_2 (by decide) ?_
  refine pcS (rest := []) ⟨hx, hb, hml, hown, hts⟩ (c_X5_in l G cI cQ p0 0 1) (cwS 3 hts gX5_fewest_X5_in rfl rfl rfl cd_X5_in ⟨Nat.le_of_ble_eq_true rfl, Nat.le_of_ble_eq_true rfl⟩) hK hP [] rfl rfl hl.1 rfl (Nat.le_of_ble_eq_true rfl) dX5_fewest_3 ⟨Nat.zero_le _, Nat.zero_le _⟩ ?_
  refine lv_if_ne (tgt := 11) hx hb dX5_fewest_6 (by decide) (fun c_1 => ?_) (fun c_1 => ?_)
  · skip
    have c_1 := bI_n0.mp c_1
    refine lv_aload_n hx hb dX5_fewest_11 rfl (lv_at hl 0 rfl) ?_
    refine pcV (rest := []) ⟨hx, hb, hml, hown, hts⟩ (c_X5_areEven l G cI cQ q z nv nj hm) (cwV 0 hts gX5_fewest_X5_areEven rfl rfl rfl cd_X5_areEven ⟨Nat.le_of_ble_eq_true rfl, Nat.le_of_ble_eq_true rfl⟩) hK hP [0, 1, 2, 3, 4, 5, 6] rfl 0 rfl rfl rfl rfl hl.1 rfl (Nat.le_of_ble_eq_true rfl) dX5_fewest_12 ⟨Nat.zero_le _, Nat.zero_le _⟩ ?_
    refine lv_if_eq (tgt := 20) hx hb dX5_fewest_15 (by decide) (fun c_2 => ?_) (fun c_2 => ?_)
    · skip
      have c_2 := bI_0.mp c_2
      refine lv_aload_n hx hb dX5_fewest_20 rfl (lv_at hl 0 rfl) ?_
      refine pcV (rest := []) ⟨hx, hb, hml, hown, hts⟩ (c_X5_target l G cI cQ q z nv nj hm) (cwV 0 hts gX5_fewest_X5_target rfl rfl rfl cd_X5_target ⟨Nat.le_of_ble_eq_true rfl, Nat.le_of_ble_eq_true rfl⟩) hK hP [0, 1, 2, 3, 4, 5, 6] rfl 0 rfl rfl rfl rfl hl.1 rfl (Nat.le_of_ble_eq_true rfl) dX5_fewest_21 ⟨Nat.zero_le _, Nat.zero_le _⟩ ?_
      refine lv_istore_n (lv' := [(2, .int (mTarget (kMs z) nj)), (0, .ref (q 0)), (1, .int p0)]) hx hb dX5_fewest_24 rfl hl (by decide) rfl (fun ls hl => ?_)
      refine lv_iconst (v := 0) hx hb dX5_fewest_25 (by decide) ?_
      refine lv_istore_n (lv' := [(3, .int 0), (2, .int (mTarget (kMs z) nj)), (0, .ref (q 0)), (1, .int p0)]) hx hb dX5_fewest_26 rfl hl (by decide) rfl (fun ls hl => ?_)
      exact few_l27 l hm c_1 c_2 hx hb hts hown hml hA hK (fun H locs hP hD hS ls hl => few_mid l hV hx hb hts hown hml hA hK (fun H locs hP hD hS ls hl => few_loop l hV hx hb hts hown hml hA hK (fun V v3 LX h9 H locs hP hD hS ls hl => few_tail l hx hb hts hown hml hA hK hr hlocks (fwE_r c_1 c_2 h9) (fwE_g c_1 c_2 h9) hP hD hS hl) (nj + 1) 0 (Nat.zero_le _) (by omega) (Or.inl rfl) H locs (by rw [fw2_t]; exact hP) (by rw [fw2_t]; exact hD) hS ls (by rw [f_if0, f_nI0]; exact hl)) hP hD hS hl) (6 + 1) 0 (by omega) (by omega) (by omega) _ _ (by rw [cpF_0]; exact hP) (by rw [cpF_0]; exact hD) hS ls (by exact lv_sub hl [0, 1, 2, 3] rfl)
    · skip
      have c_2 := bI_n0.mp c_2
      refine lv_iconst (v := 0) hx hb dX5_fewest_18 (by decide) ?_
      exact m_ret () hx hb hr hlocks rfl (by first | rfl | (unfold rMFew; simp only [eq_true c_1, eq_true c_2, if_true, if_false, and_true, true_and, and_false, false_and, or_true, true_or, or_false, false_or, not_true_eq_false, not_false_eq_true, ne_eq, ite_true, ite_false]; done) | (unfold rMFew; simp only [eq_true c_1, eq_true c_2, if_true, if_false, and_true, true_and, and_false, false_and, or_true, true_or, or_false, false_or, not_true_eq_false, not_false_eq_true, ne_eq, ite_true, ite_false]; rfl)) (by rw [show (gMFew z nv nj p0) = z from by first | rfl | (unfold gMFew; simp only [eq_true c_1, eq_true c_2, if_true, if_false, and_true, true_and, and_false, false_and, or_true, true_or, or_false, false_or, not_true_eq_false, not_false_eq_true, ne_eq, ite_true, ite_false]; done) | (unfold gMFew; simp only [eq_true c_1, eq_true c_2, if_true, if_false, and_true, true_and, and_false, false_and, or_true, true_or, or_false, false_or, not_true_eq_false, not_false_eq_true, ne_eq, ite_true, ite_false]; rfl)]; exact hP) (by rw [show (gMFew z nv nj p0) = z from by first | rfl | (unfold gMFew; simp only [eq_true c_1, eq_true c_2, if_true, if_false, and_true, true_and, and_false, false_and, or_true, true_or, or_false, false_or, not_true_eq_false, not_false_eq_true, ne_eq, ite_true, ite_false]; done) | (unfold gMFew; simp only [eq_true c_1, eq_true c_2, if_true, if_false, and_true, true_and, and_false, false_and, or_true, true_or, or_false, false_or, not_true_eq_false, not_false_eq_true, ne_eq, ite_true, ite_false]; rfl)]; exact hD) hS dX5_fewest_19
  · skip
    have c_1 := bI_0.mp c_1
    refine lv_iconst (v := (-1)) hx hb dX5_fewest_9 (by decide) ?_
    exact m_ret () hx hb hr hlocks rfl (by first | rfl | (unfold rMFew; simp only [eq_false c_1, if_true, if_false, and_true, true_and, and_false, false_and, or_true, true_or, or_false, false_or, not_true_eq_false, not_false_eq_true, ne_eq, ite_true, ite_false]; done) | (unfold rMFew; simp only [eq_false c_1, if_true, if_false, and_true, true_and, and_false, false_and, or_true, true_or, or_false, false_or, not_true_eq_false, not_false_eq_true, ne_eq, ite_true, ite_false]; rfl)) (by rw [show (gMFew z nv nj p0) = z from by first | rfl | (unfold gMFew; simp only [eq_false c_1, if_true, if_false, and_true, true_and, and_false, false_and, or_true, true_or, or_false, false_or, not_true_eq_false, not_false_eq_true, ne_eq, ite_true, ite_false]; done) | (unfold gMFew; simp only [eq_false c_1, if_true, if_false, and_true, true_and, and_false, false_and, or_true, true_or, or_false, false_or, not_true_eq_false, not_false_eq_true, ne_eq, ite_true, ite_false]; rfl)]; exact hP) (by rw [show (gMFew z nv nj p0) = z from by first | rfl | (unfold gMFew; simp only [eq_false c_1, if_true, if_false, and_true, true_and, and_false, false_and, or_true, true_or, or_false, false_or, not_true_eq_false, not_false_eq_true, ne_eq, ite_true, ite_false]; done) | (unfold gMFew; simp only [eq_false c_1, if_true, if_false, and_true, true_and, and_false, false_and, or_true, true_or, or_false, false_or, not_true_eq_false, not_false_eq_true, ne_eq, ite_true, ite_false]; rfl)]; exact hD) hS dX5_fewest_10
theorem cd_X5_fewest : yX5_fewest.cls = RX5 ∧ yX5_fewest.cls ≠ "java/lang/invoke/MethodHandle" ∧ yX5_fewest.cls ≠ "java/lang/invoke/VarHandle" ∧ (parseMethodDescriptor yX5_fewest.desc).map (fun d => d.parameters.length) = some 1 := by decide +kernel
