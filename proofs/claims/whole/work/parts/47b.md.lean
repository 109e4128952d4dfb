-- X5_triesMoves
theorem lk_X5_triesMoves_1 : Cond.fieldLink RX5 7 "EvenLoadsModel" "s" "[I" ∈ wsX5_triesMoves := List.mem_of_getElem? (i := 1) (by decide +kernel)
theorem lk_X5_triesMoves_2 : Cond.fieldLink RX5 201 "EvenLoadsModel" "cheapest" "I" ∈ wsX5_triesMoves := List.mem_of_getElem? (i := 2) (by decide +kernel)
theorem in_X5_triesMoves_X5 : ∀ w ∈ wsX50, w ∈ wsX5_triesMoves := by decide +kernel
set_option maxHeartbeats 4000000 in
set_option maxRecDepth 100000 in
theorem c_X5_triesMoves (l : Launch) (G : va_G) (cI cQ : ClassId) (q : Nat → Nat) (z : MS) (nv nj : Nat) (hV : mV (kMs z) nv nj) (f : Nat) (hf : f ≤ nj) (p0 p1 : Int32) (sz0 : Nat) : Met l yX5_triesMoves wsX5_triesMoves ({ frames := 3, cells := 0, slots := 0, locals := 64 } : Room) (mPc G cI cQ [.ref (q 0), .int (nI f), .int p0, .int p1] ((mdT cI q z)) sz0) (va_Qv (fun (_ : Unit) => True) (mB G (va_A ((mdT cI q z)) sz0) (fun _ => (mdT cI q (uMcheap z (tmJ (kMs z) nv p1 p0 (kMloads z) f (kMcheap z) nj))))) (va_A ((mdT cI q z)) sz0)) 0 0 (va_A ((mdT cI q z)) sz0) := by
  refine mm_ofv (cc := cX5_triesMoves) (maxL := 8) (ret := none) (own := RX5) (by decide) rfl rfl (Nat.le_of_ble_eq_true rfl) rfl ?_
  intro p e s m below meth cd ls A hx hb hr hts hown hlocks hml hA hK hP hD hS hl
  have hm := hV.1
  refine lv_iload_n hx hb dX5_triesMoves_0 rfl (lv_at hl 1 rfl) ?_
  refine lv_istore (lv' := [(4, .int (nI f)), (0, .ref (q 0)), (1, .int (nI f)), (2, .int p0), (3, .int p1)]) hx hb dX5_triesMoves_1 hl (by decide) rfl (fun ls hl => ?_)
  have L3 : ∀ (n3 i3 : Nat), f ≤ i3 → i3 ≤ nj → nj + 1 ≤ i3 + n3 → ∀ (H : Heap) (locs : List Loc), va_P G vwCl ((mdT cI q (uMcheap z (tmJ (kMs z) nv p1 p0 (kMloads z) f (kMcheap z) i3)))) H → va_D A ((mdT cI q (uMcheap z (tmJ (kMs z) nv p1 p0 (kMloads z) f (kMcheap z) i3)))) → va_S A s.heap H locs → ∀ (ls : Array Slot), lv_has ls 8 [(4, .int (nI i3)), (0, .ref (q 0)), (1, .int (nI f)), (2, .int p0), (3, .int p1)] → W p l e ({ frames := 3, cells := 0, slots := 0, locals := 64 } : Room) s m ([.ref (q 0), .int (nI f), .int p0, .int p1] : List Value).toArray below meth cd H locs 0 0 (MQ below (va_Qv (fun (_ : Unit) => True) (mB G (A) (fun _ => (mdT cI q (uMcheap z (tmJ (kMs z) nv p1 p0 (kMloads z) f (kMcheap z) nj))))) (A)) ([.ref (q 0), .int (nI f), .int p0, .int p1] : List Value).toArray s 0 0 A) (F0 m 3 ls []) := by
    intro n3
    induction n3 with
    | zero => intro i3 h0 h1 h2; exact absurd h2 (by omega)
    | succ n3 ih3 =>
      intro i3 hlo3 hle3 hin3 H locs hP hD hS ls hl
      have hnj := hm.2.2.2
      have hnv := hm.2.1
      refine lv_iload hx hb dX5_triesMoves_3 (lv_at hl 0 rfl) ?_
      refine lv_aload_n hx hb dX5_triesMoves_5 rfl (lv_at hl 1 rfl) ?_
      refine va_get (D := G) (ci := 5) (v := .ref (q 1)) (C := RX5) (T := TX5) (N := 15) hx hb hts in_X5_triesMoves_X5 hown hK.1 hP 0 rfl rfl 0 (by decide) (hts _ lk_X5_triesMoves_1) (fun _ h9 => h9) rfl dX5_triesMoves_6 ?_
      refine lv_iconst (v := 2) hx hb dX5_triesMoves_9 (by decide) ?_
      refine iald_n hx hb hK hP 1 rfl 2 rfl (by decide) (by decide) dX5_triesMoves_10 ?_
      refine lv_cvt (y := (nI nj)) (hm).2.2.1 ?_
      refine lv_icmp_ge (tgt := 142) hx hb dX5_triesMoves_11 (by decide) (fun c_1 => ?_) (fun c_1 => ?_)
      · skip
        have q_2 : nj = i3 := by have h9 := (nI_leI (a := nj) (b := i3) (by omega) (by omega)).mp c_1; omega
        subst q_2
        exact m_vret () hx hb hr hlocks trivial hP hD hS dX5_triesMoves_142
      · skip
        have hlt3 : i3 < nj := Nat.lt_of_not_le (fun q => c_1 ((nI_leI (a := nj) (b := i3) (by omega) (by omega)).mpr q))
        refine lv_aload_n hx hb dX5_triesMoves_14 rfl (lv_at hl 1 rfl) ?_
        refine lv_iload hx hb dX5_triesMoves_15 (lv_at hl 0 rfl) ?_
        refine lv_iconst (v := 2) hx hb dX5_triesMoves_17 (by decide) ?_
        refine pcV (rest := []) ⟨hx, hb, hml, hown, hts⟩ (c_X5_ofS l G cI cQ q (uMcheap z (tmJ (kMs z) nv p1 p0 (kMloads z) f (kMcheap z) i3)) nv nj (kMs z) (s_Y _ _) hm (nI i3) 2 (vp_in_nI (by have := hm.2.2.2; omega) (by decide)) (vp_in_nI (n := 2) (N := 4) (by decide) (by decide))) (cwV 2 hts gX5_triesMoves_X5_of rfl rfl rfl cd_X5_of ⟨Nat.le_of_ble_eq_true rfl, Nat.le_of_ble_eq_true rfl⟩) hK hP [0, 1, 2, 3, 4, 5, 6] rfl 0 rfl rfl rfl rfl hl.1 rfl (Nat.le_of_ble_eq_true rfl) dX5_triesMoves_18 ⟨Nat.zero_le _, Nat.zero_le _⟩ ?_
        refine lv_istore (lv' := [(5, .int (mOf (kMs z) (nI i3) 2)), (4, .int (nI i3)), (0, .ref (q 0)), (1, .int (nI f)), (2, .int p0), (3, .int p1)]) hx hb dX5_triesMoves_21 hl (by decide) rfl (fun ls hl => ?_)
        refine lv_iconst (v := 0) hx hb dX5_triesMoves_23 (by decide) ?_
        refine lv_istore (lv' := [(6, .int 0), (5, .int (mOf (kMs z) (nI i3) 2)), (4, .int (nI i3)), (0, .ref (q 0)), (1, .int (nI f)), (2, .int p0), (3, .int p1)]) hx hb dX5_triesMoves_24 hl (by decide) rfl (fun ls hl => ?_)
        have L26 : ∀ (n26 i26 : Nat), 0 ≤ i26 → i26 ≤ nv → nv + 1 ≤ i26 + n26 → (i26 = 0 ∨ ¬ mOf (kMs z) (nI i3) 2 = -9) → ∀ (H : Heap) (locs : List Loc), va_P G vwCl ((mdT cI q (uMcheap z (tmK (kMs z) nv p1 p0 (kMloads z) i3 (tmJ (kMs z) nv p1 p0 (kMloads z) f (kMcheap z) i3) i26)))) H → va_D A ((mdT cI q (uMcheap z (tmK (kMs z) nv p1 p0 (kMloads z) i3 (tmJ (kMs z) nv p1 p0 (kMloads z) f (kMcheap z) i3) i26)))) → va_S A s.heap H locs → ∀ (ls : Array Slot), lv_has ls 8 [(6, .int (nI i26)), (5, .int (mOf (kMs z) (nI i3) 2)), (4, .int (nI i3)), (0, .ref (q 0)), (1, .int (nI f)), (2, .int p0), (3, .int p1)] → W p l e ({ frames := 3, cells := 0, slots := 0, locals := 64 } : Room) s m ([.ref (q 0), .int (nI f), .int p0, .int p1] : List Value).toArray below meth cd H locs 0 0 (MQ below (va_Qv (fun (_ : Unit) => True) (mB G (A) (fun _ => (mdT cI q (uMcheap z (tmJ (kMs z) nv p1 p0 (kMloads z) f (kMcheap z) nj))))) (A)) ([.ref (q 0), .int (nI f), .int p0, .int p1] : List Value).toArray s 0 0 A) (F0 m 26 ls []) := by
          intro n26
          induction n26 with
          | zero => intro i26 h0 h1 h2; exact absurd h2 (by omega)
          | succ n26 ih26 =>
            intro i26 hlo26 hle26 hin26 hz26 H locs hP hD hS ls hl
            refine lv_iload hx hb dX5_triesMoves_26 (lv_at hl 0 rfl) ?_
            refine lv_aload_n hx hb dX5_triesMoves_28 rfl (lv_at hl 3 rfl) ?_
            refine va_get (D := G) (ci := 5) (v := .ref (q 1)) (C := RX5) (T := TX5) (N := 15) hx hb hts in_X5_triesMoves_X5 hown hK.1 hP 0 rfl rfl 0 (by decide) (hts _ lk_X5_triesMoves_1) (fun _ h9 => h9) rfl dX5_triesMoves_29 ?_
            refine lv_iconst (v := 0) hx hb dX5_triesMoves_32 (by decide) ?_
            refine iald_n hx hb hK hP 1 rfl 0 rfl (by decide) (by decide) dX5_triesMoves_33 ?_
            refine lv_cvt (y := (nI nv)) (hm).1 ?_
            refine lv_icmp_ge (tgt := 136) hx hb dX5_triesMoves_34 (by decide) (fun c_3 => ?_) (fun c_3 => ?_)
            · skip
              have q_4 : nv = i26 := by have h9 := (nI_leI (a := nv) (b := i26) (by omega) (by omega)).mp c_3; omega
              subst q_4
              refine lv_iinc (v := (nI (i3 + 1))) (lv' := [(4, .int (nI (i3 + 1))), (6, .int (nI nv)), (5, .int (mOf (kMs z) (nI i3) 2)), (0, .ref (q 0)), (1, .int (nI f)), (2, .int p0), (3, .int p1)]) hx hb dX5_triesMoves_136 hl (k := 2) rfl (nI_1 i3) (by decide) rfl (fun ls hl => ?_)
              refine lv_goto (tgt := 3) hx hb dX5_triesMoves_139 (by decide) ?_
              have e_5 : (tmJ (kMs z) nv p1 p0 (kMloads z) f (kMcheap z) (i3 + 1)) = (tmK (kMs z) nv p1 p0 (kMloads z) i3 (tmJ (kMs z) nv p1 p0 (kMloads z) f (kMcheap z) i3) nv) := tmJ_s hlo3 hz26
              exact ih3 (i3 + 1) (by omega) (by omega) (by omega) _ _ (by rw [e_5]; exact hP) (by rw [e_5]; exact hD) hS ls (by exact lv_sub hl [0, 3, 4, 5, 6] rfl)
            · skip
              have hlt26 : i26 < nv := Nat.lt_of_not_le (fun q => c_3 ((nI_leI (a := nv) (b := i26) (by omega) (by omega)).mpr q))
              refine lv_iload hx hb dX5_triesMoves_37 (lv_at hl 1 rfl) ?_
              refine lv_bipush (v := (-9)) hx hb dX5_triesMoves_39 (by decide) ?_
              refine lv_icmp_eq (tgt := 136) hx hb dX5_triesMoves_41 (by decide) (fun c_6 => ?_) (fun c_6 => ?_)
              · skip
                have e9 : 0 = i26 := (hz26.resolve_right (fun h9 => h9 c_6)).symm
                subst e9
                refine lv_iinc (v := (nI (i3 + 1))) (lv' := [(4, .int (nI (i3 + 1))), (6, .int (nI 0)), (5, .int (mOf (kMs z) (nI i3) 2)), (0, .ref (q 0)), (1, .int (nI f)), (2, .int p0), (3, .int p1)]) hx hb dX5_triesMoves_136 hl (k := 2) rfl (nI_1 i3) (by decide) rfl (fun ls hl => ?_)
                refine lv_goto (tgt := 3) hx hb dX5_triesMoves_139 (by decide) ?_
                have e_7 : (tmJ (kMs z) nv p1 p0 (kMloads z) f (kMcheap z) (i3 + 1)) = (tmK (kMs z) nv p1 p0 (kMloads z) i3 (tmJ (kMs z) nv p1 p0 (kMloads z) f (kMcheap z) i3) 0) := tmJ_n hlo3 c_6
                exact ih3 (i3 + 1) (by omega) (by omega) (by omega) _ _ (by rw [e_7]; exact hP) (by rw [e_7]; exact hD) hS ls (by exact lv_sub hl [0, 3, 4, 5, 6] rfl)
              · skip
                refine lv_iload hx hb dX5_triesMoves_44 (lv_at hl 0 rfl) ?_
                refine lv_iload hx hb dX5_triesMoves_46 (lv_at hl 1 rfl) ?_
                refine lv_icmp_eq (tgt := 130) hx hb dX5_triesMoves_48 (by decide) (fun c_8 => ?_) (fun c_8 => ?_)
                · skip
                  refine lv_iinc (v := (nI (i26 + 1))) (lv' := [(6, .int (nI (i26 + 1))), (5, .int (mOf (kMs z) (nI i3) 2)), (4, .int (nI i3)), (0, .ref (q 0)), (1, .int (nI f)), (2, .int p0), (3, .int p1)]) hx hb dX5_triesMoves_130 hl (k := 0) rfl (nI_1 i26) (by decide) rfl (fun ls hl => ?_)
                  refine lv_goto (tgt := 26) hx hb dX5_triesMoves_133 (by decide) ?_
                  have e_9 : (tmK (kMs z) nv p1 p0 (kMloads z) i3 (tmJ (kMs z) nv p1 p0 (kMloads z) f (kMcheap z) i3) (i26 + 1)) = (tmK (kMs z) nv p1 p0 (kMloads z) i3 (tmJ (kMs z) nv p1 p0 (kMloads z) f (kMcheap z) i3) i26) := by first | rfl | (simp only [tmK, eq_false c_6, eq_false (Ne.symm c_6), eq_true c_8, eq_true (Eq.symm c_8), if_true, if_false, and_true, true_and, and_false, false_and, or_true, true_or, or_false, false_or, not_true_eq_false, not_false_eq_true, ne_eq, ite_true, ite_false]; done) | (simp only [tmK, eq_false c_6, eq_false (Ne.symm c_6), eq_true c_8, eq_true (Eq.symm c_8), if_true, if_false, and_true, true_and, and_false, false_and, or_true, true_or, or_false, false_or, not_true_eq_false, not_false_eq_true, ne_eq, ite_true, ite_false]; rfl)
                  exact ih26 (i26 + 1) (by omega) (by omega) (by omega) (Or.inr c_6) _ _ (by rw [e_9]; exact hP) (by rw [e_9]; exact hD) hS ls (by exact lv_sub hl [0, 1, 2, 3, 4, 5, 6] rfl)
                · skip
                  refine lv_aload_n hx hb dX5_triesMoves_51 rfl (lv_at hl 3 rfl) ?_
                  refine lv_iload hx hb dX5_triesMoves_52 (lv_at hl 0 rfl) ?_
                  refine pcV (rest := []) ⟨hx, hb, hml, hown, hts⟩ (c_X5_isOpen l G cI cQ q (uMcheap z (tmK (kMs z) nv p1 p0 (kMloads z) i3 (tmJ (kMs z) nv p1 p0 (kMloads z) f (kMcheap z) i3) i26)) nv nj hm (nI i26)) (cwV 1 hts gX5_triesMoves_X5_isOpen rfl rfl rfl cd_X5_isOpen ⟨Nat.le_of_ble_eq_true rfl, Nat.le_of_ble_eq_true rfl⟩) hK hP [0, 1, 2, 3, 4, 5, 6] rfl 0 rfl rfl rfl rfl hl.1 rfl (Nat.le_of_ble_eq_true rfl) dX5_triesMoves_54 ⟨Nat.zero_le _, Nat.zero_le _⟩ ?_
                  refine lv_if_eq (tgt := 130) hx hb dX5_triesMoves_57 (by decide) (fun c_10 => ?_) (fun c_10 => ?_)
                  · skip
                    have c_10 := bI_0.mp c_10
                    refine lv_iinc (v := (nI (i26 + 1))) (lv' := [(6, .int (nI (i26 + 1))), (5, .int (mOf (kMs z) (nI i3) 2)), (4, .int (nI i3)), (0, .ref (q 0)), (1, .int (nI f)), (2, .int p0), (3, .int p1)]) hx hb dX5_triesMoves_130 hl (k := 0) rfl (nI_1 i26) (by decide) rfl (fun ls hl => ?_)
                    refine lv_goto (tgt := 26) hx hb dX5_triesMoves_133 (by decide) ?_
                    have e_11 : (tmK (kMs z) nv p1 p0 (kMloads z) i3 (tmJ (kMs z) nv p1 p0 (kMloads z) f (kMcheap z) i3) (i26 + 1)) = (tmK (kMs z) nv p1 p0 (kMloads z) i3 (tmJ (kMs z) nv p1 p0 (kMloads z) f (kMcheap z) i3) i26) := by first | rfl | (simp only [tmK, eq_false c_6, eq_false (Ne.symm c_6), eq_false c_8, eq_false (Ne.symm c_8), eq_false c_10, if_true, if_false, and_true, true_and, and_false, false_and, or_true, true_or, or_false, false_or, not_true_eq_false, not_false_eq_true, ne_eq, ite_true, ite_false]; done) | (simp only [tmK, eq_false c_6, eq_false (Ne.symm c_6), eq_false c_8, eq_false (Ne.symm c_8), eq_false c_10, if_true, if_false, and_true, true_and, and_false, false_and, or_true, true_or, or_false, false_or, not_true_eq_false, not_false_eq_true, ne_eq, ite_true, ite_false]; rfl)
                    exact ih26 (i26 + 1) (by omega) (by omega) (by omega) (Or.inr c_6) _ _ (by rw [e_11]; exact hP) (by rw [e_11]; exact hD) hS ls (by exact lv_sub hl [0, 1, 2, 3, 4, 5, 6] rfl)
                  · skip
                    have c_10 := bI_n0.mp c_10
                    refine lv_aload_n hx hb dX5_triesMoves_60 rfl (lv_at hl 3 rfl) ?_
                    refine lv_iload hx hb dX5_triesMoves_61 (lv_at hl 2 rfl) ?_
                    refine lv_iload hx hb dX5_triesMoves_63 (lv_at hl 1 rfl) ?_
                    refine lv_iload hx hb dX5_triesMoves_65 (lv_at hl 0 rfl) ?_
                    refine mcVv (rest := []) (wr := []) ⟨hx, hb, hml, hown, hts⟩ (c_X5_loadsMove l G cI cQ q (uMcheap z (tmK (kMs z) nv p1 p0 (kMloads z) i3 (tmJ (kMs z) nv p1 p0 (kMloads z) f (kMcheap z) i3) i26)) nv nj (MI_Y _ hm) (nI i3) (mOf (kMs z) (nI i3) 2) (nI i26) (vp_in_nI (by have := hm.2.2.2; omega) (by decide)) (from_in hV hlt3 c_6) (vp_in_nI (by have := hm.2.1; omega) (by decide)) _) (cwV 3 hts gX5_triesMoves_X5_loadsMove rfl rfl rfl cd_X5_loadsMove ⟨Nat.le_of_ble_eq_true rfl, Nat.le_of_ble_eq_true rfl⟩) hK hP hD hS hA [0, 1, 2, 3, 4, 5, 6] [] rfl rfl (by decide) (by decide) (by decide) 0 rfl rfl rfl rfl hl.1 rfl (Nat.le_of_ble_eq_true rfl) dX5_triesMoves_67 ⟨Nat.zero_le _, Nat.zero_le _⟩ (fun _ H locs _ hP hD hS => ?_)
                    rw [ls_Y] at hP hD
                    have hP : va_P G vwCl ((mdT cI q (uMcheap (uMloads z (lsMv (kMs z) (nI i3) (mOf (kMs z) (nI i3) 2) (nI i26) (kMloads z))) (tmK (kMs z) nv p1 p0 (kMloads z) i3 (tmJ (kMs z) nv p1 p0 (kMloads z) f (kMcheap z) i3) i26)))) H := hP
                    have hD : va_D A ((mdT cI q (uMcheap (uMloads z (lsMv (kMs z) (nI i3) (mOf (kMs z) (nI i3) 2) (nI i26) (kMloads z))) (tmK (kMs z) nv p1 p0 (kMloads z) i3 (tmJ (kMs z) nv p1 p0 (kMloads z) f (kMcheap z) i3) i26)))) := hD
                    refine lv_iload_n hx hb dX5_triesMoves_70 rfl (lv_at hl 5 rfl) ?_
                    refine lv_aload_n hx hb dX5_triesMoves_71 rfl (lv_at hl 3 rfl) ?_
                    refine lv_iload hx hb dX5_triesMoves_72 (lv_at hl 2 rfl) ?_
                    refine lv_iconst (v := 1) hx hb dX5_triesMoves_74 (by decide) ?_
                    refine pcV (rest := [.int p0]) ⟨hx, hb, hml, hown, hts⟩ (c_X5_ofS l G cI cQ q (uMcheap (uMloads z (lsMv (kMs z) (nI i3) (mOf (kMs z) (nI i3) 2) (nI i26) (kMloads z))) (tmK (kMs z) nv p1 p0 (kMloads z) i3 (tmJ (kMs z) nv p1 p0 (kMloads z) f (kMcheap z) i3) i26)) nv nj (kMs z) (s_X _ _ _) hm (nI i3) 1 (vp_in_nI (by have := hm.2.2.2; omega) (by decide)) (vp_in_nI (n := 1) (N := 4) (by decide) (by decide))) (cwV 2 hts gX5_triesMoves_X5_of rfl rfl rfl cd_X5_of ⟨Nat.le_of_ble_eq_true rfl, Nat.le_of_ble_eq_true rfl⟩) hK hP [0, 1, 2, 3, 4, 5, 6] rfl 0 rfl rfl rfl rfl hl.1 rfl (Nat.le_of_ble_eq_true rfl) dX5_triesMoves_75 ⟨Nat.zero_le _, Nat.zero_le _⟩ ?_
                    refine lv_iadd hx hb dX5_triesMoves_78 ?_
                    refine lv_istore (lv' := [(7, .int (p0 + (mOf (kMs z) (nI i3) 1))), (6, .int (nI i26)), (5, .int (mOf (kMs z) (nI i3) 2)), (4, .int (nI i3)), (0, .ref (q 0)), (1, .int (nI f)), (2, .int p0), (3, .int p1)]) hx hb dX5_triesMoves_79 hl (by decide) rfl (fun ls hl => ?_)
                    refine lv_aload_n hx hb dX5_triesMoves_81 rfl (lv_at hl 4 rfl) ?_
                    refine lv_aload_n hx hb dX5_triesMoves_82 rfl (lv_at hl 4 rfl) ?_
                    refine lv_iload_n hx hb dX5_triesMoves_83 rfl (lv_at hl 7 rfl) ?_
                    refine pcV (rest := [.ref (q 0)]) ⟨hx, hb, hml, hown, hts⟩ (c_X5_areBelowL l G cI cQ q (uMcheap (uMloads z (lsMv (kMs z) (nI i3) (mOf (kMs z) (nI i3) 2) (nI i26) (kMloads z))) (tmK (kMs z) nv p1 p0 (kMloads z) i3 (tmJ (kMs z) nv p1 p0 (kMloads z) f (kMcheap z) i3) i26)) (lsMv (kMs z) (nI i3) (mOf (kMs z) (nI i3) 2) (nI i26) (kMloads z)) (l_X _ _ _) p1) (cwV 1 hts gX5_triesMoves_X5_areBelow rfl rfl rfl cd_X5_areBelow ⟨Nat.le_of_ble_eq_true rfl, Nat.le_of_ble_eq_true rfl⟩) hK hP [0, 1, 2, 3, 4, 5, 6] rfl 0 rfl rfl rfl rfl hl.1 rfl (Nat.le_of_ble_eq_true rfl) dX5_triesMoves_84 ⟨Nat.zero_le _, Nat.zero_le _⟩ ?_
                    refine lv_if_eq (tgt := 113) hx hb dX5_triesMoves_87 (by decide) (fun c_12 => ?_) (fun c_12 => ?_)
                    · skip
                      have c_12 := bI_0.mp c_12
                      refine lv_aload_n hx hb dX5_triesMoves_113 rfl (lv_at hl 4 rfl) ?_
                      refine va_get (D := G) (ci := 5) (v := .int (tmK (kMs z) nv p1 p0 (kMloads z) i3 (tmJ (kMs z) nv p1 p0 (kMloads z) f (kMcheap z) i3) i26)) (C := RX5) (T := TX5) (N := 15) hx hb hts in_X5_triesMoves_X5 hown hK.1 hP 0 rfl rfl 14 (by decide) (hts _ lk_X5_triesMoves_2) (fun _ h9 => h9) rfl dX5_triesMoves_114 ?_
                      refine va_put (D := G) (ci := 5) (v := .int (tmK (kMs z) nv p1 p0 (kMloads z) i3 (tmJ (kMs z) nv p1 p0 (kMloads z) f (kMcheap z) i3) i26)) (ty := .int) (C := RX5) (T := TX5) (N := 15) hx hb hts in_X5_triesMoves_X5 tyX5 tyX5_ok nmX5 hown hK.1 hP hD hS 0 rfl rfl 14 (by decide) (hts _ lk_X5_triesMoves_2) (fun _ h9 => h9) rfl (by decide +kernel) rfl rfl (Nat.le_of_ble_eq_true rfl) dX5_triesMoves_117 (fun H locs hP hD hS => ?_)
                      have hP : va_P G vwCl ((mdT cI q (uMcheap (uMloads z (lsMv (kMs z) (nI i3) (mOf (kMs z) (nI i3) 2) (nI i26) (kMloads z))) (tmK (kMs z) nv p1 p0 (kMloads z) i3 (tmJ (kMs z) nv p1 p0 (kMloads z) f (kMcheap z) i3) i26)))) H := hP
                      have hD : va_D A ((mdT cI q (uMcheap (uMloads z (lsMv (kMs z) (nI i3) (mOf (kMs z) (nI i3) 2) (nI i26) (kMloads z))) (tmK (kMs z) nv p1 p0 (kMloads z) i3 (tmJ (kMs z) nv p1 p0 (kMloads z) f (kMcheap z) i3) i26)))) := hD
                      refine lv_aload_n hx hb dX5_triesMoves_120 rfl (lv_at hl 4 rfl) ?_
                      refine lv_iload hx hb dX5_triesMoves_121 (lv_at hl 3 rfl) ?_
                      refine lv_iload hx hb dX5_triesMoves_123 (lv_at hl 1 rfl) ?_
                      refine lv_iload hx hb dX5_triesMoves_125 (lv_at hl 2 rfl) ?_
                      refine mcVv (rest := []) (wr := []) ⟨hx, hb, hml, hown, hts⟩ (c_X5_loadsMove l G cI cQ q (uMcheap (uMloads z (lsMv (kMs z) (nI i3) (mOf (kMs z) (nI i3) 2) (nI i26) (kMloads z))) (tmK (kMs z) nv p1 p0 (kMloads z) i3 (tmJ (kMs z) nv p1 p0 (kMloads z) f (kMcheap z) i3) i26)) nv nj (MI_X _ _ hm) (nI i3) (nI i26) (mOf (kMs z) (nI i3) 2) (vp_in_nI (by have := hm.2.2.2; omega) (by decide)) (vp_in_nI (by have := hm.2.1; omega) (by decide)) (from_in hV hlt3 c_6) _) (cwV 3 hts gX5_triesMoves_X5_loadsMove rfl rfl rfl cd_X5_loadsMove ⟨Nat.le_of_ble_eq_true rfl, Nat.le_of_ble_eq_true rfl⟩) hK hP hD hS hA [0, 1, 2, 3, 4, 5, 6] [] rfl rfl (by decide) (by decide) (by decide) 0 rfl rfl rfl rfl hl.1 rfl (Nat.le_of_ble_eq_true rfl) dX5_triesMoves_127 ⟨Nat.zero_le _, Nat.zero_le _⟩ (fun _ H locs _ hP hD hS => ?_)
                      rw [ls_X] at hP hD
                      have hP : va_P G vwCl ((mdT cI q (uMcheap (uMloads z (lsMv (kMs z) (nI i3) (nI i26) (mOf (kMs z) (nI i3) 2) (lsMv (kMs z) (nI i3) (mOf (kMs z) (nI i3) 2) (nI i26) (kMloads z)))) (tmK (kMs z) nv p1 p0 (kMloads z) i3 (tmJ (kMs z) nv p1 p0 (kMloads z) f (kMcheap z) i3) i26)))) H := hP
                      have hD : va_D A ((mdT cI q (uMcheap (uMloads z (lsMv (kMs z) (nI i3) (nI i26) (mOf (kMs z) (nI i3) 2) (lsMv (kMs z) (nI i3) (mOf (kMs z) (nI i3) 2) (nI i26) (kMloads z)))) (tmK (kMs z) nv p1 p0 (kMloads z) i3 (tmJ (kMs z) nv p1 p0 (kMloads z) f (kMcheap z) i3) i26)))) := hD
                      have e130 : (lsMv (kMs z) (nI i3) (nI i26) (mOf (kMs z) (nI i3) 2) (lsMv (kMs z) (nI i3) (mOf (kMs z) (nI i3) 2) (nI i26) (kMloads z))) = (kMloads z) := ls_back (kMs z) _ (from_in hV hlt3 c_6) (vp_in_nI (by have := hm.2.1; omega) (by decide)) c_8
                      rw [e130, un_X] at hP hD
                      have hP : va_P G vwCl ((mdT cI q (uMcheap z (tmK (kMs z) nv p1 p0 (kMloads z) i3 (tmJ (kMs z) nv p1 p0 (kMloads z) f (kMcheap z) i3) i26)))) H := hP
                      have hD : va_D A ((mdT cI q (uMcheap z (tmK (kMs z) nv p1 p0 (kMloads z) i3 (tmJ (kMs z) nv p1 p0 (kMloads z) f (kMcheap z) i3) i26)))) := hD
                      refine lv_iinc (v := (nI (i26 + 1))) (lv' := [(6, .int (nI (i26 + 1))), (7, .int (p0 + (mOf (kMs z) (nI i3) 1))), (5, .int (mOf (kMs z) (nI i3) 2)), (4, .int (nI i3)), (0, .ref (q 0)), (1, .int (nI f)), (2, .int p0), (3, .int p1)]) hx hb dX5_triesMoves_130 hl (k := 1) rfl (nI_1 i26) (by decide) rfl (fun ls hl => ?_)
                      refine lv_goto (tgt := 26) hx hb dX5_triesMoves_133 (by decide) ?_
                      have e_13 : (tmK (kMs z) nv p1 p0 (kMloads z) i3 (tmJ (kMs z) nv p1 p0 (kMloads z) f (kMcheap z) i3) (i26 + 1)) = (tmK (kMs z) nv p1 p0 (kMloads z) i3 (tmJ (kMs z) nv p1 p0 (kMloads z) f (kMcheap z) i3) i26) := by first | rfl | (simp only [tmK, eq_false c_6, eq_false (Ne.symm c_6), eq_false c_8, eq_false (Ne.symm c_8), eq_true c_10, eq_false c_12, if_true, if_false, and_true, true_and, and_false, false_and, or_true, true_or, or_false, false_or, not_true_eq_false, not_false_eq_true, ne_eq, ite_true, ite_false]; done) | (simp only [tmK, eq_false c_6, eq_false (Ne.symm c_6), eq_false c_8, eq_false (Ne.symm c_8), eq_true c_10, eq_false c_12, if_true, if_false, and_true, true_and, and_false, false_and, or_true, true_or, or_false, false_or, not_true_eq_false, not_false_eq_true, ne_eq, ite_true, ite_false]; rfl)
                      exact ih26 (i26 + 1) (by omega) (by omega) (by omega) (Or.inr c_6) _ _ (by rw [e_13]; exact hP) (by rw [e_13]; exact hD) hS ls (by exact lv_sub hl [0, 2, 3, 4, 5, 6, 7] rfl)
                    · skip
                      have c_12 := bI_n0.mp c_12
                      refine lv_aload_n hx hb dX5_triesMoves_90 rfl (lv_at hl 4 rfl) ?_
                      refine va_get (D := G) (ci := 5) (v := .int (tmK (kMs z) nv p1 p0 (kMloads z) i3 (tmJ (kMs z) nv p1 p0 (kMloads z) f (kMcheap z) i3) i26)) (C := RX5) (T := TX5) (N := 15) hx hb hts in_X5_triesMoves_X5 hown hK.1 hP 0 rfl rfl 14 (by decide) (hts _ lk_X5_triesMoves_2) (fun _ h9 => h9) rfl dX5_triesMoves_91 ?_
                      refine lv_bipush (v := (-9)) hx hb dX5_triesMoves_94 (by decide) ?_
                      refine lv_icmp_eq (tgt := 108) hx hb dX5_triesMoves_96 (by decide) (fun c_14 => ?_) (fun c_14 => ?_)
                      · skip
                        refine lv_iload hx hb dX5_triesMoves_108 (lv_at hl 0 rfl) ?_
                        refine lv_goto (tgt := 117) hx hb dX5_triesMoves_110 (by decide) ?_
                        refine va_put (D := G) (ci := 5) (v := .int (p0 + (mOf (kMs z) (nI i3) 1))) (ty := .int) (C := RX5) (T := TX5) (N := 15) hx hb hts in_X5_triesMoves_X5 tyX5 tyX5_ok nmX5 hown hK.1 hP hD hS 0 rfl rfl 14 (by decide) (hts _ lk_X5_triesMoves_2) (fun _ h9 => h9) rfl (by decide +kernel) rfl rfl (Nat.le_of_ble_eq_true rfl) dX5_triesMoves_117 (fun H locs hP hD hS => ?_)
                        have hP : va_P G vwCl ((mdT cI q (uMcheap (uMloads z (lsMv (kMs z) (nI i3) (mOf (kMs z) (nI i3) 2) (nI i26) (kMloads z))) (p0 + (mOf (kMs z) (nI i3) 1))))) H := hP
                        have hD : va_D A ((mdT cI q (uMcheap (uMloads z (lsMv (kMs z) (nI i3) (mOf (kMs z) (nI i3) 2) (nI i26) (kMloads z))) (p0 + (mOf (kMs z) (nI i3) 1))))) := hD
                        refine lv_aload_n hx hb dX5_triesMoves_120 rfl (lv_at hl 4 rfl) ?_
                        refine lv_iload hx hb dX5_triesMoves_121 (lv_at hl 3 rfl) ?_
                        refine lv_iload hx hb dX5_triesMoves_123 (lv_at hl 1 rfl) ?_
                        refine lv_iload hx hb dX5_triesMoves_125 (lv_at hl 2 rfl) ?_
                        refine mcVv (rest := []) (wr := []) ⟨hx, hb, hml, hown, hts⟩ (c_X5_loadsMove l G cI cQ q (uMcheap (uMloads z (lsMv (kMs z) (nI i3) (mOf (kMs z) (nI i3) 2) (nI i26) (kMloads z))) (p0 + (mOf (kMs z) (nI i3) 1))) nv nj (MI_X _ _ hm) (nI i3) (nI i26) (mOf (kMs z) (nI i3) 2) (vp_in_nI (by have := hm.2.2.2; omega) (by decide)) (vp_in_nI (by have := hm.2.1; omega) (by decide)) (from_in hV hlt3 c_6) _) (cwV 3 hts gX5_triesMoves_X5_loadsMove rfl rfl rfl cd_X5_loadsMove ⟨Nat.le_of_ble_eq_true rfl, Nat.le_of_ble_eq_true rfl⟩) hK hP hD hS hA [0, 1, 2, 3, 4, 5, 6] [] rfl rfl (by decide) (by decide) (by decide) 0 rfl rfl rfl rfl hl.1 rfl (Nat.le_of_ble_eq_true rfl) dX5_triesMoves_127 ⟨Nat.zero_le _, Nat.zero_le _⟩ (fun _ H locs _ hP hD hS => ?_)
                        rw [ls_X] at hP hD
                        have hP : va_P G vwCl ((mdT cI q (uMcheap (uMloads z (lsMv (kMs z) (nI i3) (nI i26) (mOf (kMs z) (nI i3) 2) (lsMv (kMs z) (nI i3) (mOf (kMs z) (nI i3) 2) (nI i26) (kMloads z)))) (p0 + (mOf (kMs z) (nI i3) 1))))) H := hP
                        have hD : va_D A ((mdT cI q (uMcheap (uMloads z (lsMv (kMs z) (nI i3) (nI i26) (mOf (kMs z) (nI i3) 2) (lsMv (kMs z) (nI i3) (mOf (kMs z) (nI i3) 2) (nI i26) (kMloads z)))) (p0 + (mOf (kMs z) (nI i3) 1))))) := hD
                        have e130 : (lsMv (kMs z) (nI i3) (nI i26) (mOf (kMs z) (nI i3) 2) (lsMv (kMs z) (nI i3) (mOf (kMs z) (nI i3) 2) (nI i26) (kMloads z))) = (kMloads z) := ls_back (kMs z) _ (from_in hV hlt3 c_6) (vp_in_nI (by have := hm.2.1; omega) (by decide)) c_8
                        rw [e130, un_X] at hP hD
                        have hP : va_P G vwCl ((mdT cI q (uMcheap z (p0 + (mOf (kMs z) (nI i3) 1))))) H := hP
                        have hD : va_D A ((mdT cI q (uMcheap z (p0 + (mOf (kMs z) (nI i3) 1))))) := hD
                        refine lv_iinc (v := (nI (i26 + 1))) (lv' := [(6, .int (nI (i26 + 1))), (7, .int (p0 + (mOf (kMs z) (nI i3) 1))), (5, .int (mOf (kMs z) (nI i3) 2)), (4, .int (nI i3)), (0, .ref (q 0)), (1, .int (nI f)), (2, .int p0), (3, .int p1)]) hx hb dX5_triesMoves_130 hl (k := 1) rfl (nI_1 i26) (by decide) rfl (fun ls hl => ?_)
                        refine lv_goto (tgt := 26) hx hb dX5_triesMoves_133 (by decide) ?_
                        have e_15 : (tmK (kMs z) nv p1 p0 (kMloads z) i3 (tmJ (kMs z) nv p1 p0 (kMloads z) f (kMcheap z) i3) (i26 + 1)) = (p0 + (mOf (kMs z) (nI i3) 1)) := by first | rfl | (simp only [tmK, eq_false c_6, eq_false (Ne.symm c_6), eq_false c_8, eq_false (Ne.symm c_8), eq_true c_10, eq_true c_12, eq_true c_14, eq_true (Eq.symm c_14), if_true, if_false, and_true, true_and, and_false, false_and, or_true, true_or, or_false, false_or, not_true_eq_false, not_false_eq_true, ne_eq, ite_true, ite_false]; done) | (simp only [tmK, eq_false c_6, eq_false (Ne.symm c_6), eq_false c_8, eq_false (Ne.symm c_8), eq_true c_10, eq_true c_12, eq_true c_14, eq_true (Eq.symm c_14), if_true, if_false, and_true, true_and, and_false, false_and, or_true, true_or, or_false, false_or, not_true_eq_false, not_false_eq_true, ne_eq, ite_true, ite_false]; rfl)
                        exact ih26 (i26 + 1) (by omega) (by omega) (by omega) (Or.inr c_6) _ _ (by rw [e_15]; exact hP) (by rw [e_15]; exact hD) hS ls (by exact lv_sub hl [0, 2, 3, 4, 5, 6, 7] rfl)
                      · skip
                        refine lv_iload hx hb dX5_triesMoves_99 (lv_at hl 0 rfl) ?_
                        refine lv_aload_n hx hb dX5_triesMoves_101 rfl (lv_at hl 4 rfl) ?_
                        refine va_get (D := G) (ci := 5) (v := .int (tmK (kMs z) nv p1 p0 (kMloads z) i3 (tmJ (kMs z) nv p1 p0 (kMloads z) f (kMcheap z) i3) i26)) (C := RX5) (T := TX5) (N := 15) hx hb hts in_X5_triesMoves_X5 hown hK.1 hP 0 rfl rfl 14 (by decide) (hts _ lk_X5_triesMoves_2) (fun _ h9 => h9) rfl dX5_triesMoves_102 ?_
                        refine lv_icmp_ge (tgt := 113) hx hb dX5_triesMoves_105 (by decide) (fun c_16 => ?_) (fun c_16 => ?_)
                        · skip
                          refine lv_aload_n hx hb dX5_triesMoves_113 rfl (lv_at hl 4 rfl) ?_
                          refine va_get (D := G) (ci := 5) (v := .int (tmK (kMs z) nv p1 p0 (kMloads z) i3 (tmJ (kMs z) nv p1 p0 (kMloads z) f (kMcheap z) i3) i26)) (C := RX5) (T := TX5) (N := 15) hx hb hts in_X5_triesMoves_X5 hown hK.1 hP 0 rfl rfl 14 (by decide) (hts _ lk_X5_triesMoves_2) (fun _ h9 => h9) rfl dX5_triesMoves_114 ?_
                          refine va_put (D := G) (ci := 5) (v := .int (tmK (kMs z) nv p1 p0 (kMloads z) i3 (tmJ (kMs z) nv p1 p0 (kMloads z) f (kMcheap z) i3) i26)) (ty := .int) (C := RX5) (T := TX5) (N := 15) hx hb hts in_X5_triesMoves_X5 tyX5 tyX5_ok nmX5 hown hK.1 hP hD hS 0 rfl rfl 14 (by decide) (hts _ lk_X5_triesMoves_2) (fun _ h9 => h9) rfl (by decide +kernel) rfl rfl (Nat.le_of_ble_eq_true rfl) dX5_triesMoves_117 (fun H locs hP hD hS => ?_)
                          have hP : va_P G vwCl ((mdT cI q (uMcheap (uMloads z (lsMv (kMs z) (nI i3) (mOf (kMs z) (nI i3) 2) (nI i26) (kMloads z))) (tmK (kMs z) nv p1 p0 (kMloads z) i3 (tmJ (kMs z) nv p1 p0 (kMloads z) f (kMcheap z) i3) i26)))) H := hP
                          have hD : va_D A ((mdT cI q (uMcheap (uMloads z (lsMv (kMs z) (nI i3) (mOf (kMs z) (nI i3) 2) (nI i26) (kMloads z))) (tmK (kMs z) nv p1 p0 (kMloads z) i3 (tmJ (kMs z) nv p1 p0 (kMloads z) f (kMcheap z) i3) i26)))) := hD
                          refine lv_aload_n hx hb dX5_triesMoves_120 rfl (lv_at hl 4 rfl) ?_
                          refine lv_iload hx hb dX5_triesMoves_121 (lv_at hl 3 rfl) ?_
                          refine lv_iload hx hb dX5_triesMoves_123 (lv_at hl 1 rfl) ?_
                          refine lv_iload hx hb dX5_triesMoves_125 (lv_at hl 2 rfl) ?_
                          refine mcVv (rest := []) (wr := []) ⟨hx, hb, hml, hown, hts⟩ (c_X5_loadsMove l G cI cQ q (uMcheap (uMloads z (lsMv (kMs z) (nI i3) (mOf (kMs z) (nI i3) 2) (nI i26) (kMloads z))) (tmK (kMs z) nv p1 p0 (kMloads z) i3 (tmJ (kMs z) nv p1 p0 (kMloads z) f (kMcheap z) i3) i26)) nv nj (MI_X _ _ hm) (nI i3) (nI i26) (mOf (kMs z) (nI i3) 2) (vp_in_nI (by have := hm.2.2.2; omega) (by decide)) (vp_in_nI (by have := hm.2.1; omega) (by decide)) (from_in hV hlt3 c_6) _) (cwV 3 hts gX5_triesMoves_X5_loadsMove rfl rfl rfl cd_X5_loadsMove ⟨Nat.le_of_ble_eq_true rfl, Nat.le_of_ble_eq_true rfl⟩) hK hP hD hS hA [0, 1, 2, 3, 4, 5, 6] [] rfl rfl (by decide) (by decide) (by decide) 0 rfl rfl rfl rfl hl.1 rfl (Nat.le_of_ble_eq_true rfl) dX5_triesMoves_127 ⟨Nat.zero_le _, Nat.zero_le _⟩ (fun _ H locs _ hP hD hS => ?_)
                          rw [ls_X] at hP hD
                          have hP : va_P G vwCl ((mdT cI q (uMcheap (uMloads z (lsMv (kMs z) (nI i3) (nI i26) (mOf (kMs z) (nI i3) 2) (lsMv (kMs z) (nI i3) (mOf (kMs z) (nI i3) 2) (nI i26) (kMloads z)))) (tmK (kMs z) nv p1 p0 (kMloads z) i3 (tmJ (kMs z) nv p1 p0 (kMloads z) f (kMcheap z) i3) i26)))) H := hP
                          have hD : va_D A ((mdT cI q (uMcheap (uMloads z (lsMv (kMs z) (nI i3) (nI i26) (mOf (kMs z) (nI i3) 2) (lsMv (kMs z) (nI i3) (mOf (kMs z) (nI i3) 2) (nI i26) (kMloads z)))) (tmK (kMs z) nv p1 p0 (kMloads z) i3 (tmJ (kMs z) nv p1 p0 (kMloads z) f (kMcheap z) i3) i26)))) := hD
                          have e130 : (lsMv (kMs z) (nI i3) (nI i26) (mOf (kMs z) (nI i3) 2) (lsMv (kMs z) (nI i3) (mOf (kMs z) (nI i3) 2) (nI i26) (kMloads z))) = (kMloads z) := ls_back (kMs z) _ (from_in hV hlt3 c_6) (vp_in_nI (by have := hm.2.1; omega) (by decide)) c_8
                          rw [e130, un_X] at hP hD
                          have hP : va_P G vwCl ((mdT cI q (uMcheap z (tmK (kMs z) nv p1 p0 (kMloads z) i3 (tmJ (kMs z) nv p1 p0 (kMloads z) f (kMcheap z) i3) i26)))) H := hP
                          have hD : va_D A ((mdT cI q (uMcheap z (tmK (kMs z) nv p1 p0 (kMloads z) i3 (tmJ (kMs z) nv p1 p0 (kMloads z) f (kMcheap z) i3) i26)))) := hD
                          refine lv_iinc (v := (nI (i26 + 1))) (lv' := [(6, .int (nI (i26 + 1))), (7, .int (p0 + (mOf (kMs z) (nI i3) 1))), (5, .int (mOf (kMs z) (nI i3) 2)), (4, .int (nI i3)), (0, .ref (q 0)), (1, .int (nI f)), (2, .int p0), (3, .int p1)]) hx hb dX5_triesMoves_130 hl (k := 1) rfl (nI_1 i26) (by decide) rfl (fun ls hl => ?_)
                          refine lv_goto (tgt := 26) hx hb dX5_triesMoves_133 (by decide) ?_
                          have e_17 : (tmK (kMs z) nv p1 p0 (kMloads z) i3 (tmJ (kMs z) nv p1 p0 (kMloads z) f (kMcheap z) i3) (i26 + 1)) = (tmK (kMs z) nv p1 p0 (kMloads z) i3 (tmJ (kMs z) nv p1 p0 (kMloads z) f (kMcheap z) i3) i26) := by first | rfl | (simp only [tmK, eq_false c_6, eq_false (Ne.symm c_6), eq_false c_8, eq_false (Ne.symm c_8), eq_true c_10, eq_true c_12, eq_false c_14, eq_false (Ne.symm c_14), eq_true c_16, eq_false (Int32.not_lt.mpr c_16), if_true, if_false, and_true, true_and, and_false, false_and, or_true, true_or, or_false, false_or, not_true_eq_false, not_false_eq_true, ne_eq, ite_true, ite_false]; done) | (simp only [tmK, eq_false c_6, eq_false (Ne.symm c_6), eq_false c_8, eq_false (Ne.symm c_8), eq_true c_10, eq_true c_12, eq_false c_14, eq_false (Ne.symm c_14), eq_true c_16, eq_false (Int32.not_lt.mpr c_16), if_true, if_false, and_true, true_and, and_false, false_and, or_true, true_or, or_false, false_or, not_true_eq_false, not_false_eq_true, ne_eq, ite_true, ite_false]; rfl)
                          exact ih26 (i26 + 1) (by omega) (by omega) (by omega) (Or.inr c_6) _ _ (by rw [e_17]; exact hP) (by rw [e_17]; exact hD) hS ls (by exact lv_sub hl [0, 2, 3, 4, 5, 6, 7] rfl)
                        · skip
                          refine lv_iload hx hb dX5_triesMoves_108 (lv_at hl 0 rfl) ?_
                          refine lv_goto (tgt := 117) hx hb dX5_triesMoves_110 (by decide) ?_
                          refine va_put (D := G) (ci := 5) (v := .int (p0 + (mOf (kMs z) (nI i3) 1))) (ty := .int) (C := RX5) (T := TX5) (N := 15) hx hb hts in_X5_triesMoves_X5 tyX5 tyX5_ok nmX5 hown hK.1 hP hD hS 0 rfl rfl 14 (by decide) (hts _ lk_X5_triesMoves_2) (fun _ h9 => h9) rfl (by decide +kernel) rfl rfl (Nat.le_of_ble_eq_true rfl) dX5_triesMoves_117 (fun H locs hP hD hS => ?_)
                          have hP : va_P G vwCl ((mdT cI q (uMcheap (uMloads z (lsMv (kMs z) (nI i3) (mOf (kMs z) (nI i3) 2) (nI i26) (kMloads z))) (p0 + (mOf (kMs z) (nI i3) 1))))) H := hP
                          have hD : va_D A ((mdT cI q (uMcheap (uMloads z (lsMv (kMs z) (nI i3) (mOf (kMs z) (nI i3) 2) (nI i26) (kMloads z))) (p0 + (mOf (kMs z) (nI i3) 1))))) := hD
                          refine lv_aload_n hx hb dX5_triesMoves_120 rfl (lv_at hl 4 rfl) ?_
                          refine lv_iload hx hb dX5_triesMoves_121 (lv_at hl 3 rfl) ?_
                          refine lv_iload hx hb dX5_triesMoves_123 (lv_at hl 1 rfl) ?_
                          refine lv_iload hx hb dX5_triesMoves_125 (lv_at hl 2 rfl) ?_
                          refine mcVv (rest := []) (wr := []) ⟨hx, hb, hml, hown, hts⟩ (c_X5_loadsMove l G cI cQ q (uMcheap (uMloads z (lsMv (kMs z) (nI i3) (mOf (kMs z) (nI i3) 2) (nI i26) (kMloads z))) (p0 + (mOf (kMs z) (nI i3) 1))) nv nj (MI_X _ _ hm) (nI i3) (nI i26) (mOf (kMs z) (nI i3) 2) (vp_in_nI (by have := hm.2.2.2; omega) (by decide)) (vp_in_nI (by have := hm.2.1; omega) (by decide)) (from_in hV hlt3 c_6) _) (cwV 3 hts gX5_triesMoves_X5_loadsMove rfl rfl rfl cd_X5_loadsMove ⟨Nat.le_of_ble_eq_true rfl, Nat.le_of_ble_eq_true rfl⟩) hK hP hD hS hA [0, 1, 2, 3, 4, 5, 6] [] rfl rfl (by decide) (by decide) (by decide) 0 rfl rfl rfl rfl hl.1 rfl (Nat.le_of_ble_eq_true rfl) dX5_triesMoves_127 ⟨Nat.zero_le _, Nat.zero_le _⟩ (fun _ H locs _ hP hD hS => ?_)
                          rw [ls_X] at hP hD
                          have hP : va_P G vwCl ((mdT cI q (uMcheap (uMloads z (lsMv (kMs z) (nI i3) (nI i26) (mOf (kMs z) (nI i3) 2) (lsMv (kMs z) (nI i3) (mOf (kMs z) (nI i3) 2) (nI i26) (kMloads z)))) (p0 + (mOf (kMs z) (nI i3) 1))))) H := hP
                          have hD : va_D A ((mdT cI q (uMcheap (uMloads z (lsMv (kMs z) (nI i3) (nI i26) (mOf (kMs z) (nI i3) 2) (lsMv (kMs z) (nI i3) (mOf (kMs z) (nI i3) 2) (nI i26) (kMloads z)))) (p0 + (mOf (kMs z) (nI i3) 1))))) := hD
                          have e130 : (lsMv (kMs z) (nI i3) (nI i26) (mOf (kMs z) (nI i3) 2) (lsMv (kMs z) (nI i3) (mOf (kMs z) (nI i3) 2) (nI i26) (kMloads z))) = (kMloads z) := ls_back (kMs z) _ (from_in hV hlt3 c_6) (vp_in_nI (by have := hm.2.1; omega) (by decide)) c_8
                          rw [e130, un_X] at hP hD
                          have hP : va_P G vwCl ((mdT cI q (uMcheap z (p0 + (mOf (kMs z) (nI i3) 1))))) H := hP
                          have hD : va_D A ((mdT cI q (uMcheap z (p0 + (mOf (kMs z) (nI i3) 1))))) := hD
                          refine lv_iinc (v := (nI (i26 + 1))) (lv' := [(6, .int (nI (i26 + 1))), (7, .int (p0 + (mOf (kMs z) (nI i3) 1))), (5, .int (mOf (kMs z) (nI i3) 2)), (4, .int (nI i3)), (0, .ref (q 0)), (1, .int (nI f)), (2, .int p0), (3, .int p1)]) hx hb dX5_triesMoves_130 hl (k := 1) rfl (nI_1 i26) (by decide) rfl (fun ls hl => ?_)
                          refine lv_goto (tgt := 26) hx hb dX5_triesMoves_133 (by decide) ?_
                          have e_18 : (tmK (kMs z) nv p1 p0 (kMloads z) i3 (tmJ (kMs z) nv p1 p0 (kMloads z) f (kMcheap z) i3) (i26 + 1)) = (p0 + (mOf (kMs z) (nI i3) 1)) := by first | rfl | (simp only [tmK, eq_false c_6, eq_false (Ne.symm c_6), eq_false c_8, eq_false (Ne.symm c_8), eq_true c_10, eq_true c_12, eq_false c_14, eq_false (Ne.symm c_14), eq_false c_16, eq_true (Int32.not_le.mp c_16), if_true, if_false, and_true, true_and, and_false, false_and, or_true, true_or, or_false, false_or, not_true_eq_false, not_false_eq_true, ne_eq, ite_true, ite_false]; done) | (simp only [tmK, eq_false c_6, eq_false (Ne.symm c_6), eq_false c_8, eq_false (Ne.symm c_8), eq_true c_10, eq_true c_12, eq_false c_14, eq_false (Ne.symm c_14), eq_false c_16, eq_true (Int32.not_le.mp c_16), if_true, if_false, and_true, true_and, and_false, false_and, or_true, true_or, or_false, false_or, not_true_eq_false, not_false_eq_true, ne_eq, ite_true, ite_false]; rfl)
                          exact ih26 (i26 + 1) (by omega) (by omega) (by omega) (Or.inr c_6) _ _ (by rw [e_18]; exact hP) (by rw [e_18]; exact hD) hS ls (by exact lv_sub hl [0, 2, 3, 4, 5, 6, 7] rfl)
        have e_19 : (nI 0) = 0 := by first | rfl | decide
        have e_20 : (tmK (kMs z) nv p1 p0 (kMloads z) i3 (tmJ (kMs z) nv p1 p0 (kMloads z) f (kMcheap z) i3) 0) = (tmJ (kMs z) nv p1 p0 (kMloads z) f (kMcheap z) i3) := by rfl
        exact L26 (nv + 1) 0 (by omega) (by omega) (by omega) (Or.inl rfl) _ _ (by rw [e_20]; exact hP) (by rw [e_20]; exact hD) hS ls (by rw [e_19]; exact lv_sub hl [0, 1, 2, 3, 4, 5, 6] rfl)
  have e_21 : (tmJ (kMs z) nv p1 p0 (kMloads z) f (kMcheap z) f) = (kMcheap z) := tmJ_f _ _ _ _ _ _ _
  exact L3 (nj + 1) f (by omega) (by omega) (by omega) _ _ (by rw [e_21]; exact hP) (by rw [e_21]; exact hD) hS ls (by exact lv_sub hl [0, 1, 2, 3, 4] rfl)
theorem cd_X5_triesMoves : yX5_triesMoves.cls = RX5 ∧ yX5_triesMoves.cls ≠ "java/lang/invoke/MethodHandle" ∧ yX5_triesMoves.cls ≠ "java/lang/invoke/VarHandle" ∧ (parseMethodDescriptor yX5_triesMoves.desc).map (fun d => d.parameters.length) = some 3 := by decide +kernel
