/-! the least load of an open server -/
def lsN (c : CS) : Nat → Nat
  | 0 => 99999
  | k + 1 => if kop c k = 1 ∧ loadN c k < lsN c k then loadN c k else lsN c k
theorem ls_le (c : CS) : ∀ n k, k < n → kop c k = 1 → lsN c n ≤ loadN c k
  | 0, k, h, _ => absurd h (Nat.not_lt_zero k)
  | n + 1, k, h, ho => by
    have ih := ls_le c n
    show (if kop c n = 1 ∧ loadN c n < lsN c n then loadN c n else lsN c n) ≤ _
    by_cases e : k = n
    · subst e
      by_cases g : loadN c k < lsN c k
      · rw [if_pos ⟨ho, g⟩]
        exact Nat.le_refl _
      · rw [if_neg (fun q => g q.2)]
        omega
    · have i := ih k (by omega) ho
      split <;> omega
theorem ls_or (c : CS) : ∀ n, lsN c n = 99999 ∨ ∃ k, k < n ∧ kop c k = 1 ∧ lsN c n = loadN c k
  | 0 => Or.inl rfl
  | n + 1 => by
    show (if kop c n = 1 ∧ loadN c n < lsN c n then loadN c n else lsN c n) = _ ∨ ∃ k, k < n + 1 ∧ kop c k = 1 ∧ (if kop c n = 1 ∧ loadN c n < lsN c n then loadN c n else lsN c n) = loadN c k
    by_cases g : kop c n = 1 ∧ loadN c n < lsN c n
    · rw [if_pos g]
      exact Or.inr ⟨n, by omega, g.1, rfl⟩
    · rw [if_neg g]
      rcases ls_or c n with h | ⟨k, h1, h2, h3⟩
      · exact Or.inl h
      · exact Or.inr ⟨k, by omega, h2, h3⟩
theorem ls_bd (c : CS) (h : CI c) : ∀ n, lsN c n ≤ 99999
  | 0 => Nat.le_refl _
  | n + 1 => by
    have ih := ls_bd c h n
    show (if kop c n = 1 ∧ loadN c n < lsN c n then loadN c n else lsN c n) ≤ _
    split <;> omega
theorem vc6 {c : CS} {v : HW} {y : PS} (h : CI c) (hv : 0 < knv c) : sCount c v y 6 = nI (lsN c (knv c)) := by
  obtain ⟨f, f0, f6, e, o, m⟩ := empty_ok h hv
  show aT 6 (kld c) (sEmpty c) = _
  rw [e, cld h f6]
  have l1 := ls_le c (knv c) f f0 o
  have l2 := load_le h f
  rcases ls_or c (knv c) with q | ⟨k, h1, h2, h3⟩
  · omega
  · have := m k h1 h2
    exact congrArg nI (by omega)
theorem vc6z {c : CS} {v : HW} {y : PS} (hv : knv c = 0) : sCount c v y 6 = 0 := by
  show aT 6 (kld c) (sEmpty c) = _
  rw [empty9 hv]
  rfl
/-! the rows of loads and numbers, job by job -/
theorem row_l (c : CS) (j x : Nat) : upd (fun x => nI (su (lzN c x) j)) (pN c j) (nI (su (lzN c (pN c j)) j) + nI (zN c j)) x = nI (su (lzN c x) (j + 1)) := by
  by_cases e : x = pN c j
  · rw [e, up_s, nI_add]
    show _ = nI (su (lzN c (pN c j)) j + lzN c (pN c j) j)
    rw [show lzN c (pN c j) j = zN c j from if_pos rfl]
  · rw [up_n _ _ e]
    show _ = nI (su (lzN c x) j + lzN c x j)
    rw [show lzN c x j = 0 from if_neg (Ne.symm e)]
    rfl
theorem row_m (c : CS) (j x : Nat) : upd (fun x => nI (su (mnN c x) j)) (pN c j) (nI (su (mnN c (pN c j)) j) + 1) x = nI (su (mnN c x) (j + 1)) := by
  by_cases e : x = pN c j
  · rw [e, up_s, nI_1]
    show _ = nI (su (mnN c (pN c j)) j + mnN c (pN c j) j)
    rw [show mnN c (pN c j) j = 1 from if_pos rfl]
  · rw [up_n _ _ e]
    show _ = nI (su (mnN c x) j + mnN c x j)
    rw [show mnN c x j = 0 from if_neg (Ne.symm e)]
    rfl
theorem row_l9 {c : CS} {j : Nat} (h : pN c j = 9) (x : Nat) (hx : x < 6) : nI (su (lzN c x) j) = nI (su (lzN c x) (j + 1)) := by
  show _ = nI (su (lzN c x) j + lzN c x j)
  rw [show lzN c x j = 0 from if_neg (by omega)]
  rfl
theorem row_m9 {c : CS} {j : Nat} (h : pN c j = 9) (x : Nat) (hx : x < 6) : nI (su (mnN c x) j) = nI (su (mnN c x) (j + 1)) := by
  show _ = nI (su (mnN c x) j + mnN c x j)
  rw [show mnN c x j = 0 from if_neg (by omega)]
  rfl
theorem row_P {G : va_G} {cI : ClassId} {ma la : Nat} {f f2 g g2 : Nat → Int32} {ws : va_W} {H : Heap} (hP : va_P G vwCl ((ma, .inl (cI, 6, .inl f)) :: (la, .inl (cI, 6, .inl g)) :: ws) H) (hf : ∀ x, x < 6 → f x = f2 x) (hg : ∀ x, x < 6 → g x = g2 x) : va_P G vwCl ((ma, .inl (cI, 6, .inl f2)) :: (la, .inl (cI, 6, .inl g2)) :: ws) H := (hP.arr 0 rfl hf).arr 1 rfl hg
theorem row_D {A : Nat → Prop} {cI : ClassId} {ma la : Nat} {f f2 g g2 : Nat → Int32} {ws : va_W} (hD : va_D A ((ma, .inl (cI, 6, .inl f)) :: (la, .inl (cI, 6, .inl g)) :: ws)) : va_D A ((ma, .inl (cI, 6, .inl f2)) :: (la, .inl (cI, 6, .inl g2)) :: ws) := by
  rw [D_nd] at hD ⊢
  refine ⟨hD.1, fun q hq => ?_⟩
  rcases List.mem_cons.mp hq with e | hq
  · rw [e]
    exact hD.2 (ma, .inl (cI, 6, .inl f)) List.mem_cons_self
  · rcases List.mem_cons.mp hq with e | hq
    · rw [e]
      exact hD.2 (la, .inl (cI, 6, .inl g)) (List.mem_cons_of_mem _ List.mem_cons_self)
    · exact hD.2 q (List.mem_cons_of_mem _ (List.mem_cons_of_mem _ hq))
theorem D_tl {A : Nat → Prop} {x : Nat × va_E} {ws : va_W} (h : va_D A (x :: ws)) : va_D A ws := by
  rw [D_nd] at h ⊢
  exact ⟨(List.nodup_cons.mp h.1).2, fun q hq => h.2 q (List.mem_cons_of_mem _ hq)⟩
theorem lk_L_fits_1 : Cond.arrayClass .int ∈ wsL_fits := List.mem_of_getElem? (i := 1) (by decide +kernel)
theorem lk_L_fits_2 : Cond.constant RL 82 (99999) ∈ wsL_fits := List.mem_of_getElem? (i := 2) (by decide +kernel)
set_option maxHeartbeats 20000000 in
set_option maxRecDepth 100000 in
theorem c_L_fits (l : Launch) (G : va_G) (cI cQ : ClassId) (d : AD) (o : ES) (hE : EI o) (sz0 : Nat) : Met l yL_fits wsL_fits ({ frames := 5, cells := 2, slots := 12, locals := 143 } : Room) (mPc G cI cQ [.ref (adE d)] (XW cI cQ d o) sz0) (va_Qi (fun (r : Int32) (u : ES) => r = 1 ∧ (EI u ∧ eC u = eC o)) (mB G (va_A (XW cI cQ d o) sz0) (XW cI cQ d)) (va_A (XW cI cQ d o) sz0)) 2 12 (va_A (XW cI cQ d o) sz0) := by
  refine mm_of (cc := cL_fits) (maxL := 17) (ret := (some .boolean)) (own := RL) (by decide) rfl rfl (Nat.le_of_ble_eq_true rfl) rfl ?_
  intro p e s m below meth cd ls A hx hb hr hts hown hlocks hml hA hK hP hD hS hl
  have w := hE.1
  have hj24 := ci_nj w.1
  have hv6 := ci_nv w.1
  have alB := all_le w.1
  have bgB := bg_le w.1
  have avB := av_le w.1
  have opB := op_le (eC o)
  have lsB := ls_bd (eC o) w.1
  have gtB := gt_le w.1
  have tgB := tg_le w.1
  have bdB := bd_le w.1
  revert hP hD hS
  suffices hall : ∀ (H : Heap) (locs : List Loc), va_P G vwCl (XW cI cQ d o) H → va_D A (XW cI cQ d o) → va_S A s.heap H locs → W p l e ({ frames := 5, cells := 2, slots := 12, locals := 143 } : Room) s m ([.ref (adE d)] : List Value).toArray below meth cd H locs 0 0 (MQ below (va_Qi (fun (r : Int32) (u : ES) => r = 1 ∧ (EI u ∧ eC u = eC o)) (mB G (A) (XW cI cQ d)) (A)) ([.ref (adE d)] : List Value).toArray s 2 12 A) (F0 m 0 ls []) from fun hP hD hS => hall _ _ hP hD hS
  intro H locs hP hD hS
  refine lv_aload_n hx hb dL_fits_0 rfl (lv_at hl 0 rfl) ?_
  refine lv_iconst (v := 0) hx hb dL_fits_1 (by decide) ?_
  refine xpV (rest := []) ⟨hx, hb, hml, hown, hts⟩ (x_count l G cI cQ d o hE 0) (cwV 1 hts gL_fits_X4_count rfl rfl rfl cd_X4_count ⟨Nat.le_of_ble_eq_true rfl, Nat.le_of_ble_eq_true rfl⟩) hK hP rfl hl.1 rfl (Nat.le_of_ble_eq_true rfl) dL_fits_2 ⟨Nat.le_of_ble_eq_true rfl, Nat.le_of_ble_eq_true rfl⟩ ?_
  refine lv_cvt (y := (nI (knv (eC o)))) (rfl) ?_
  refine lv_istore_n (lv' := [(1, .int (nI (knv (eC o)))), (0, .ref (adE d))]) hx hb dL_fits_5 rfl hl (by decide) rfl (fun ls hl => ?_)
  refine lv_aload_n hx hb dL_fits_6 rfl (lv_at hl 1 rfl) ?_
  refine lv_iconst (v := 2) hx hb dL_fits_7 (by decide) ?_
  refine xpV (rest := []) ⟨hx, hb, hml, hown, hts⟩ (x_count l G cI cQ d o hE 2) (cwV 1 hts gL_fits_X4_count rfl rfl rfl cd_X4_count ⟨Nat.le_of_ble_eq_true rfl, Nat.le_of_ble_eq_true rfl⟩) hK hP rfl hl.1 rfl (Nat.le_of_ble_eq_true rfl) dL_fits_8 ⟨Nat.le_of_ble_eq_true rfl, Nat.le_of_ble_eq_true rfl⟩ ?_
  refine lv_cvt (y := (nI (knj (eC o)))) (rfl) ?_
  refine lv_istore_n (lv' := [(2, .int (nI (knj (eC o)))), (1, .int (nI (knv (eC o)))), (0, .ref (adE d))]) hx hb dL_fits_11 rfl hl (by decide) rfl (fun ls hl => ?_)
  refine lv_iconst (v := 0) hx hb dL_fits_12 (by decide) ?_
  refine lv_istore_n (lv' := [(3, .int 0), (2, .int (nI (knj (eC o)))), (1, .int (nI (knv (eC o)))), (0, .ref (adE d))]) hx hb dL_fits_13 rfl hl (by decide) rfl (fun ls hl => ?_)
  refine lv_iconst (v := 0) hx hb dL_fits_14 (by decide) ?_
  refine lv_istore (lv' := [(4, .int 0), (3, .int 0), (2, .int (nI (knj (eC o)))), (1, .int (nI (knv (eC o)))), (0, .ref (adE d))]) hx hb dL_fits_15 hl (by decide) rfl (fun ls hl => ?_)
  refine lv_iconst (v := 0) hx hb dL_fits_17 (by decide) ?_
  refine lv_istore (lv' := [(5, .int 0), (4, .int 0), (3, .int 0), (2, .int (nI (knj (eC o)))), (1, .int (nI (knv (eC o)))), (0, .ref (adE d))]) hx hb dL_fits_18 hl (by decide) rfl (fun ls hl => ?_)
  refine lv_iconst (v := 0) hx hb dL_fits_20 (by decide) ?_
  refine lv_istore (lv' := [(6, .int 0), (5, .int 0), (4, .int 0), (3, .int 0), (2, .int (nI (knj (eC o)))), (1, .int (nI (knv (eC o)))), (0, .ref (adE d))]) hx hb dL_fits_21 hl (by decide) rfl (fun ls hl => ?_)
  refine lv_bipush (v := 6) hx hb dL_fits_23 (by decide) ?_
  refine newI hx hb (hts _ lk_L_fits_1) hK hP hD hS hA (i := 6) 6 rfl (by decide) (Nat.le_of_ble_eq_true rfl) (Nat.le_of_ble_eq_true rfl) dL_fits_25 (fun la H hP hD hS => ?_)
  have hP : va_P G vwCl ((la, .inl (cI, 6, .inl (fun _ => 0))) :: XW cI cQ d o) H := P_perm List.perm_append_comm hP
  have hD : va_D A ((la, .inl (cI, 6, .inl (fun _ => 0))) :: XW cI cQ d o) := D_perm List.perm_append_comm hD
  refine lv_astore (lv' := [(7, .ref la), (6, .int 0), (5, .int 0), (4, .int 0), (3, .int 0), (2, .int (nI (knj (eC o)))), (1, .int (nI (knv (eC o)))), (0, .ref (adE d))]) hx hb dL_fits_27 hl (by decide) rfl (fun ls hl => ?_)
  refine lv_bipush (v := 6) hx hb dL_fits_29 (by decide) ?_
  refine newI hx hb (hts _ lk_L_fits_1) hK hP hD hS hA (i := 6) 6 rfl (by decide) (Nat.le_of_ble_eq_true rfl) (Nat.le_of_ble_eq_true rfl) dL_fits_31 (fun ma H hP hD hS => ?_)
  have hP : va_P G vwCl ((ma, .inl (cI, 6, .inl (fun _ => 0))) :: (la, .inl (cI, 6, .inl (fun _ => 0))) :: XW cI cQ d o) H := P_perm List.perm_append_comm hP
  have hD : va_D A ((ma, .inl (cI, 6, .inl (fun _ => 0))) :: (la, .inl (cI, 6, .inl (fun _ => 0))) :: XW cI cQ d o) := D_perm List.perm_append_comm hD
  refine lv_astore (lv' := [(8, .ref ma), (7, .ref la), (6, .int 0), (5, .int 0), (4, .int 0), (3, .int 0), (2, .int (nI (knj (eC o)))), (1, .int (nI (knv (eC o)))), (0, .ref (adE d))]) hx hb dL_fits_33 hl (by decide) rfl (fun ls hl => ?_)
  refine lv_iconst (v := 1) hx hb dL_fits_35 (by decide) ?_
  refine lv_istore (lv' := [(9, .int 1), (8, .ref ma), (7, .ref la), (6, .int 0), (5, .int 0), (4, .int 0), (3, .int 0), (2, .int (nI (knj (eC o)))), (1, .int (nI (knv (eC o)))), (0, .ref (adE d))]) hx hb dL_fits_36 hl (by decide) rfl (fun ls hl => ?_)
  refine lv_iconst (v := 0) hx hb dL_fits_38 (by decide) ?_
  refine lv_istore (lv' := [(10, .int 0), (9, .int 1), (8, .ref ma), (7, .ref la), (6, .int 0), (5, .int 0), (4, .int 0), (3, .int 0), (2, .int (nI (knj (eC o)))), (1, .int (nI (knv (eC o)))), (0, .ref (adE d))]) hx hb dL_fits_39 hl (by decide) rfl (fun ls hl => ?_)
  have K1 : ∀ (n2 j : Nat), j + n2 = knj (eC o) → ∀ (H : Heap) (locs : List Loc), va_P G vwCl ((ma, .inl (cI, 6, .inl ((fun x => nI (su (mnN (eC o) x) j))))) :: (la, .inl (cI, 6, .inl ((fun x => nI (su (lzN (eC o) x) j))))) :: XW cI cQ d o) H → va_D A ((ma, .inl (cI, 6, .inl ((fun x => nI (su (mnN (eC o) x) j))))) :: (la, .inl (cI, 6, .inl ((fun x => nI (su (lzN (eC o) x) j))))) :: XW cI cQ d o) → va_S A s.heap H locs → ∀ (ls : Array Slot), lv_has ls 17 [(10, .int (nI j)), (9, .int 1), (8, .ref ma), (7, .ref la), (6, .int (mvF (eC o) j)), (5, .int (nI (mxN (azN (eC o)) j))), (4, .int (nI (su (mnN (eC o) 9) j))), (3, .int (nI (su (azN (eC o)) j))), (2, .int (nI (knj (eC o)))), (1, .int (nI (knv (eC o)))), (0, .ref (adE d))] → W p l e ({ frames := 5, cells := 2, slots := 12, locals := 143 } : Room) s m ([.ref (adE d)] : List Value).toArray below meth cd H locs 2 12 (MQ below (va_Qi (fun (r : Int32) (u : ES) => r = 1 ∧ (EI u ∧ eC u = eC o)) (mB G (A) (XW cI cQ d)) (A)) ([.ref (adE d)] : List Value).toArray s 2 12 A) (F0 m 41 ls []) := by
    intro n2
    induction n2 with
    | zero =>
      intro j hi_j H locs hP hD hS ls hl
      have e_j : j = knj (eC o) := by omega
      subst e_j
      refine lv_iload hx hb dL_fits_41 (lv_at hl 0 rfl) ?_
      refine lv_iload_n hx hb dL_fits_43 rfl (lv_at hl 8 rfl) ?_
      refine lv_icmp_ge (tgt := 220) hx hb dL_fits_44 (by decide) (fun _ => ?_) (fun c => False.elim (c (Int32.le_refl _)))
      refine lv_iconst (v := 0) hx hb dL_fits_220 (by decide) ?_
      refine lv_istore (lv' := [(10, .int 0), (9, .int 1), (8, .ref ma), (7, .ref la), (6, .int (mvF (eC o) (knj (eC o)))), (5, .int (nI (mxN (azN (eC o)) (knj (eC o))))), (4, .int (nI (su (mnN (eC o) 9) (knj (eC o))))), (3, .int (nI (su (azN (eC o)) (knj (eC o))))), (2, .int (nI (knj (eC o)))), (1, .int (nI (knv (eC o)))), (0, .ref (adE d))]) hx hb dL_fits_221 hl (by decide) rfl (fun ls hl => ?_)
      refine lv_iconst (v := 0) hx hb dL_fits_223 (by decide) ?_
      refine lv_istore (lv' := [(11, .int 0), (10, .int 0), (9, .int 1), (8, .ref ma), (7, .ref la), (6, .int (mvF (eC o) (knj (eC o)))), (5, .int (nI (mxN (azN (eC o)) (knj (eC o))))), (4, .int (nI (su (mnN (eC o) 9) (knj (eC o))))), (3, .int (nI (su (azN (eC o)) (knj (eC o))))), (2, .int (nI (knj (eC o)))), (1, .int (nI (knv (eC o)))), (0, .ref (adE d))]) hx hb dL_fits_224 hl (by decide) rfl (fun ls hl => ?_)
      refine lv_ldc (v := 99999) hx hb hown (hts _ lk_L_fits_2) dL_fits_226 ?_
      refine lv_istore (lv' := [(12, .int 99999), (11, .int 0), (10, .int 0), (9, .int 1), (8, .ref ma), (7, .ref la), (6, .int (mvF (eC o) (knj (eC o)))), (5, .int (nI (mxN (azN (eC o)) (knj (eC o))))), (4, .int (nI (su (mnN (eC o) 9) (knj (eC o))))), (3, .int (nI (su (azN (eC o)) (knj (eC o))))), (2, .int (nI (knj (eC o)))), (1, .int (nI (knv (eC o)))), (0, .ref (adE d))]) hx hb dL_fits_228 hl (by decide) rfl (fun ls hl => ?_)
      refine lv_iconst (v := 0) hx hb dL_fits_230 (by decide) ?_
      refine lv_istore (lv' := [(13, .int 0), (12, .int 99999), (11, .int 0), (10, .int 0), (9, .int 1), (8, .ref ma), (7, .ref la), (6, .int (mvF (eC o) (knj (eC o)))), (5, .int (nI (mxN (azN (eC o)) (knj (eC o))))), (4, .int (nI (su (mnN (eC o) 9) (knj (eC o))))), (3, .int (nI (su (azN (eC o)) (knj (eC o))))), (2, .int (nI (knj (eC o)))), (1, .int (nI (knv (eC o)))), (0, .ref (adE d))]) hx hb dL_fits_231 hl (by decide) rfl (fun ls hl => ?_)
      have K3 : ∀ (n4 k : Nat), k + n4 = knv (eC o) → ∀ (H : Heap) (locs : List Loc), va_P G vwCl ((ma, .inl (cI, 6, .inl ((fun x => nI (su (mnN (eC o) x) (knj (eC o))))))) :: (la, .inl (cI, 6, .inl ((fun x => nI (su (lzN (eC o) x) (knj (eC o))))))) :: XW cI cQ d o) H → va_D A ((ma, .inl (cI, 6, .inl ((fun x => nI (su (mnN (eC o) x) (knj (eC o))))))) :: (la, .inl (cI, 6, .inl ((fun x => nI (su (lzN (eC o) x) (knj (eC o))))))) :: XW cI cQ d o) → va_S A s.heap H locs → ∀ (ls : Array Slot), lv_has ls 17 [(13, .int (nI k)), (12, .int (nI (lsN (eC o) k))), (11, .int (nI (mxN (loadN (eC o)) k))), (10, .int (nI (su (oN (eC o)) k))), (9, .int 1), (8, .ref ma), (7, .ref la), (6, .int (mvF (eC o) (knj (eC o)))), (5, .int (nI (mxN (azN (eC o)) (knj (eC o))))), (4, .int (nI (su (mnN (eC o) 9) (knj (eC o))))), (3, .int (nI (su (azN (eC o)) (knj (eC o))))), (2, .int (nI (knj (eC o)))), (1, .int (nI (knv (eC o)))), (0, .ref (adE d))] → W p l e ({ frames := 5, cells := 2, slots := 12, locals := 143 } : Room) s m ([.ref (adE d)] : List Value).toArray below meth cd H locs 2 12 (MQ below (va_Qi (fun (r : Int32) (u : ES) => r = 1 ∧ (EI u ∧ eC u = eC o)) (mB G (A) (XW cI cQ d)) (A)) ([.ref (adE d)] : List Value).toArray s 2 12 A) (F0 m 233 ls []) := by
        intro n4
        induction n4 with
        | zero =>
          intro k hi_k H locs hP hD hS ls hl
          have e_k : k = knv (eC o) := by omega
          subst e_k
          refine lv_iload hx hb dL_fits_233 (lv_at hl 0 rfl) ?_
          refine lv_iload_n hx hb dL_fits_235 rfl (lv_at hl 12 rfl) ?_
          refine lv_icmp_ge (tgt := 578) hx hb dL_fits_236 (by decide) (fun _ => ?_) (fun c => False.elim (c (Int32.le_refl _)))
          by_cases n0 : knv (eC o) = 0
          · skip
            have op0 : opN (eC o) = 0 := by omega
            refine lv_iload hx hb dL_fits_578 (lv_at hl 3 rfl) ?_
            refine lv_if_ne (tgt := 587) hx hb dL_fits_580 (by decide) (fun c => False.elim (c (congrArg nI op0))) (fun _ => ?_)
            refine lv_iconst (v := 0) hx hb dL_fits_583 (by decide) ?_
            refine lv_goto (tgt := 596) hx hb dL_fits_584 (by decide) ?_
            refine lv_cvt (y := (nI (avN (eC o)))) (congrArg nI (show 0 = avN (eC o) from (if_pos op0).symm)) ?_
            refine lv_istore (lv' := [(13, .int (nI (avN (eC o)))), (12, .int (nI (lsN (eC o) (knv (eC o))))), (11, .int (nI (mxN (loadN (eC o)) (knv (eC o))))), (10, .int (nI (su (oN (eC o)) (knv (eC o))))), (9, .int 1), (8, .ref ma), (7, .ref la), (6, .int (mvF (eC o) (knj (eC o)))), (5, .int (nI (mxN (azN (eC o)) (knj (eC o))))), (4, .int (nI (su (mnN (eC o) 9) (knj (eC o))))), (3, .int (nI (su (azN (eC o)) (knj (eC o))))), (2, .int (nI (knj (eC o)))), (1, .int (nI (knv (eC o)))), (0, .ref (adE d))]) hx hb dL_fits_596 hl (by decide) rfl (fun ls hl => ?_)
            refine lv_iload hx hb dL_fits_598 (lv_at hl 0 rfl) ?_
            refine lv_iload hx hb dL_fits_600 (lv_at hl 8 rfl) ?_
            refine lv_icmp_le (tgt := 610) hx hb dL_fits_602 (by decide) (fun c602 => ?_) (fun c602 => ?_)
            · skip
              refine lv_iload hx hb dL_fits_610 (lv_at hl 8 rfl) ?_
              refine lv_cvt (y := (nI (bdN (eC o)))) (congrArg nI (show bgN (eC o) = bdN (eC o) from (Nat.max_eq_right ((nI_leI (b := bgN (eC o)) (by omega) (by omega)).mp c602)).symm)) ?_
              refine lv_istore (lv' := [(14, .int (nI (bdN (eC o)))), (13, .int (nI (avN (eC o)))), (12, .int (nI (lsN (eC o) (knv (eC o))))), (11, .int (nI (mxN (loadN (eC o)) (knv (eC o))))), (10, .int (nI (su (oN (eC o)) (knv (eC o))))), (9, .int 1), (8, .ref ma), (7, .ref la), (6, .int (mvF (eC o) (knj (eC o)))), (5, .int (nI (mxN (azN (eC o)) (knj (eC o))))), (4, .int (nI (su (mnN (eC o) 9) (knj (eC o))))), (3, .int (nI (su (azN (eC o)) (knj (eC o))))), (2, .int (nI (knj (eC o)))), (1, .int (nI (knv (eC o)))), (0, .ref (adE d))]) hx hb dL_fits_612 hl (by decide) rfl (fun ls hl => ?_)
              refine lv_iload hx hb dL_fits_614 (lv_at hl 5 rfl) ?_
              refine lv_if_eq (tgt := 767) hx hb dL_fits_616 (by decide) (fun c => absurd c (by decide)) (fun _ => ?_)
              refine lv_aload_n hx hb dL_fits_619 rfl (lv_at hl 14 rfl) ?_
              refine lv_iconst (v := 1) hx hb dL_fits_620 (by decide) ?_
              refine xpV (rest := []) ⟨hx, hb, hml, hown, hts⟩ (x_count l G cI cQ d o hE 1) (cwV 1 hts gL_fits_X4_count rfl rfl rfl cd_X4_count ⟨Nat.le_of_ble_eq_true rfl, Nat.le_of_ble_eq_true rfl⟩) hK (P_tl (P_tl hP)) rfl hl.1 rfl (Nat.le_of_ble_eq_true rfl) dL_fits_621 ⟨Nat.le_of_ble_eq_true rfl, Nat.le_of_ble_eq_true rfl⟩ ?_
              refine lv_cvt (y := (nI (opN (eC o)))) (vc1 w.1) ?_
              refine lv_iload hx hb dL_fits_624 (lv_at hl 4 rfl) ?_
              refine lv_icmp_ne (tgt := 767) hx hb dL_fits_626 (by decide) (fun c => False.elim (c rfl)) (fun _ => ?_)
              refine lv_iload_n hx hb dL_fits_629 rfl (lv_at hl 13 rfl) ?_
              refine lv_if_eq (tgt := 638) hx hb dL_fits_630 (by decide) (fun _ => ?_) (fun c => False.elim (c (congrArg nI n0)))
              refine lv_aload_n hx hb dL_fits_638 rfl (lv_at hl 14 rfl) ?_
              refine lv_iconst (v := 3) hx hb dL_fits_639 (by decide) ?_
              refine xpV (rest := []) ⟨hx, hb, hml, hown, hts⟩ (x_count l G cI cQ d o hE 3) (cwV 1 hts gL_fits_X4_count rfl rfl rfl cd_X4_count ⟨Nat.le_of_ble_eq_true rfl, Nat.le_of_ble_eq_true rfl⟩) hK (P_tl (P_tl hP)) rfl hl.1 rfl (Nat.le_of_ble_eq_true rfl) dL_fits_640 ⟨Nat.le_of_ble_eq_true rfl, Nat.le_of_ble_eq_true rfl⟩ ?_
              refine lv_cvt (y := (nI (su (mnN (eC o) 9) (knj (eC o))))) (vc3 w.1) ?_
              refine lv_iload hx hb dL_fits_643 (lv_at hl 10 rfl) ?_
              refine lv_icmp_ne (tgt := 767) hx hb dL_fits_645 (by decide) (fun c => False.elim (c rfl)) (fun _ => ?_)
              refine lv_aload_n hx hb dL_fits_648 rfl (lv_at hl 14 rfl) ?_
              refine lv_iconst (v := 4) hx hb dL_fits_649 (by decide) ?_
              refine xpV (rest := []) ⟨hx, hb, hml, hown, hts⟩ (x_count l G cI cQ d o hE 4) (cwV 1 hts gL_fits_X4_count rfl rfl rfl cd_X4_count ⟨Nat.le_of_ble_eq_true rfl, Nat.le_of_ble_eq_true rfl⟩) hK (P_tl (P_tl hP)) rfl hl.1 rfl (Nat.le_of_ble_eq_true rfl) dL_fits_650 ⟨Nat.le_of_ble_eq_true rfl, Nat.le_of_ble_eq_true rfl⟩ ?_
              refine lv_cvt (y := (nI (allN (eC o)))) (vc4 w.1) ?_
              refine lv_iload_n hx hb dL_fits_653 rfl (lv_at hl 11 rfl) ?_
              refine lv_icmp_ne (tgt := 767) hx hb dL_fits_654 (by decide) (fun c => False.elim (c rfl)) (fun _ => ?_)
              refine lv_aload_n hx hb dL_fits_657 rfl (lv_at hl 14 rfl) ?_
              refine lv_iconst (v := 5) hx hb dL_fits_658 (by decide) ?_
              refine xpV (rest := []) ⟨hx, hb, hml, hown, hts⟩ (x_count l G cI cQ d o hE 5) (cwV 1 hts gL_fits_X4_count rfl rfl rfl cd_X4_count ⟨Nat.le_of_ble_eq_true rfl, Nat.le_of_ble_eq_true rfl⟩) hK (P_tl (P_tl hP)) rfl hl.1 rfl (Nat.le_of_ble_eq_true rfl) dL_fits_659 ⟨Nat.le_of_ble_eq_true rfl, Nat.le_of_ble_eq_true rfl⟩ ?_
              refine lv_cvt (y := (nI (gtN (eC o)))) (vc5 w.1) ?_
              refine lv_iload hx hb dL_fits_662 (lv_at hl 3 rfl) ?_
              refine lv_icmp_ne (tgt := 767) hx hb dL_fits_664 (by decide) (fun c => False.elim (c rfl)) (fun _ => ?_)
              refine lv_aload_n hx hb dL_fits_667 rfl (lv_at hl 14 rfl) ?_
              refine lv_bipush (v := 6) hx hb dL_fits_668 (by decide) ?_
              refine xpV (rest := []) ⟨hx, hb, hml, hown, hts⟩ (x_count l G cI cQ d o hE 6) (cwV 1 hts gL_fits_X4_count rfl rfl rfl cd_X4_count ⟨Nat.le_of_ble_eq_true rfl, Nat.le_of_ble_eq_true rfl⟩) hK (P_tl (P_tl hP)) rfl hl.1 rfl (Nat.le_of_ble_eq_true rfl) dL_fits_670 ⟨Nat.le_of_ble_eq_true rfl, Nat.le_of_ble_eq_true rfl⟩ ?_
              refine lv_cvt (y := 0) (vc6z n0) ?_
              refine lv_iload_n hx hb dL_fits_673 rfl (lv_at hl 13 rfl) ?_
              refine lv_if_ne (tgt := 681) hx hb dL_fits_674 (by decide) (fun c => False.elim (c (congrArg nI n0))) (fun _ => ?_)
              refine lv_iconst (v := 0) hx hb dL_fits_677 (by decide) ?_
              refine lv_goto (tgt := 683) hx hb dL_fits_678 (by decide) ?_
              refine lv_icmp_ne (tgt := 767) hx hb dL_fits_683 (by decide) (fun c => False.elim (c rfl)) (fun _ => ?_)
              refine lv_aload_n hx hb dL_fits_686 rfl (lv_at hl 14 rfl) ?_
              refine lv_bipush (v := 7) hx hb dL_fits_687 (by decide) ?_
              refine xpV (rest := []) ⟨hx, hb, hml, hown, hts⟩ (x_count l G cI cQ d o hE 7) (cwV 1 hts gL_fits_X4_count rfl rfl rfl cd_X4_count ⟨Nat.le_of_ble_eq_true rfl, Nat.le_of_ble_eq_true rfl⟩) hK (P_tl (P_tl hP)) rfl hl.1 rfl (Nat.le_of_ble_eq_true rfl) dL_fits_689 ⟨Nat.le_of_ble_eq_true rfl, Nat.le_of_ble_eq_true rfl⟩ ?_
              refine lv_cvt (y := (nI (bdN (eC o)))) (vc7 w.1) ?_
              refine lv_iload hx hb dL_fits_692 (lv_at hl 0 rfl) ?_
              refine lv_icmp_ne (tgt := 767) hx hb dL_fits_694 (by decide) (fun c => False.elim (c rfl)) (fun _ => ?_)
              refine lv_aload_n hx hb dL_fits_697 rfl (lv_at hl 14 rfl) ?_
              refine lv_bipush (v := 8) hx hb dL_fits_698 (by decide) ?_
              refine xpV (rest := []) ⟨hx, hb, hml, hown, hts⟩ (x_count l G cI cQ d o hE 8) (cwV 1 hts gL_fits_X4_count rfl rfl rfl cd_X4_count ⟨Nat.le_of_ble_eq_true rfl, Nat.le_of_ble_eq_true rfl⟩) hK (P_tl (P_tl hP)) rfl hl.1 rfl (Nat.le_of_ble_eq_true rfl) dL_fits_700 ⟨Nat.le_of_ble_eq_true rfl, Nat.le_of_ble_eq_true rfl⟩ ?_
              refine lv_cvt (y := (nI (tgN (eC o)))) (vc8 w.1) ?_
              refine lv_iload hx hb dL_fits_703 (lv_at hl 0 rfl) ?_
              refine lv_aload_n hx hb dL_fits_705 rfl (lv_at hl 14 rfl) ?_
              refine lv_bipush (v := 11) hx hb dL_fits_706 (by decide) ?_
              refine xpV (rest := [.int (nI (bdN (eC o))), .int (nI (tgN (eC o)))]) ⟨hx, hb, hml, hown, hts⟩ (x_count l G cI cQ d o hE 11) (cwV 1 hts gL_fits_X4_count rfl rfl rfl cd_X4_count ⟨Nat.le_of_ble_eq_true rfl, Nat.le_of_ble_eq_true rfl⟩) hK (P_tl (P_tl hP)) rfl hl.1 rfl (Nat.le_of_ble_eq_true rfl) dL_fits_708 ⟨Nat.le_of_ble_eq_true rfl, Nat.le_of_ble_eq_true rfl⟩ ?_
              refine lv_cvt (y := (nI (faN (eC o)))) (w.1.2.2.2.2.2.2.1.1) ?_
              refine lv_imul hx hb dL_fits_711 ?_
              refine lv_cvt (y := (nI (bdN (eC o) * faN (eC o)))) (pk_mul _ _) ?_
              refine lv_bipush (v := 100) hx hb dL_fits_712 (by decide) ?_
              refine lv_idiv hx hb dL_fits_714 (by decide) ?_
              refine lv_cvt (y := (nI (tgN (eC o)))) (pk_div (d := 100) (by have : bdN (eC o) * faN (eC o) ≤ 24000 * 400 := Nat.mul_le_mul bdB w.1.2.2.2.2.2.2.1.2.2; omega) (by decide) (by decide)) ?_
              refine lv_icmp_ne (tgt := 767) hx hb dL_fits_715 (by decide) (fun c => False.elim (c rfl)) (fun _ => ?_)
              refine lv_aload_n hx hb dL_fits_718 rfl (lv_at hl 14 rfl) ?_
              refine lv_bipush (v := 9) hx hb dL_fits_719 (by decide) ?_
              refine xpV (rest := []) ⟨hx, hb, hml, hown, hts⟩ (x_count l G cI cQ d o hE 9) (cwV 1 hts gL_fits_X4_count rfl rfl rfl cd_X4_count ⟨Nat.le_of_ble_eq_true rfl, Nat.le_of_ble_eq_true rfl⟩) hK (P_tl (P_tl hP)) rfl hl.1 rfl (Nat.le_of_ble_eq_true rfl) dL_fits_721 ⟨Nat.le_of_ble_eq_true rfl, Nat.le_of_ble_eq_true rfl⟩ ?_
              by_cases ge : gtN (eC o) ≤ tgN (eC o)
              · skip
                refine lv_cvt (y := 1) (vc9t w.1 ge) ?_
                refine lv_iload hx hb dL_fits_724 (lv_at hl 3 rfl) ?_
                refine lv_aload_n hx hb dL_fits_726 rfl (lv_at hl 14 rfl) ?_
                refine lv_bipush (v := 8) hx hb dL_fits_727 (by decide) ?_
                refine xpV (rest := [.int (nI (mxN (loadN (eC o)) (knv (eC o)))), .int 1]) ⟨hx, hb, hml, hown, hts⟩ (x_count l G cI cQ d o hE 8) (cwV 1 hts gL_fits_X4_count rfl rfl rfl cd_X4_count ⟨Nat.le_of_ble_eq_true rfl, Nat.le_of_ble_eq_true rfl⟩) hK (P_tl (P_tl hP)) rfl hl.1 rfl (Nat.le_of_ble_eq_true rfl) dL_fits_729 ⟨Nat.le_of_ble_eq_true rfl, Nat.le_of_ble_eq_true rfl⟩ ?_
                refine lv_cvt (y := (nI (tgN (eC o)))) (vc8 w.1) ?_
                refine lv_icmp_gt (tgt := 739) hx hb dL_fits_732 (by decide) (fun c => False.elim (absurd ((nI_ltI (b := gtN (eC o)) (by omega) (by omega)).mp c) (by omega))) (fun _ => ?_)
                refine lv_iconst (v := 1) hx hb dL_fits_735 (by decide) ?_
                refine lv_goto (tgt := 740) hx hb dL_fits_736 (by decide) ?_
                refine lv_icmp_ne (tgt := 767) hx hb dL_fits_740 (by decide) (fun c => absurd c (by decide)) (fun _ => ?_)
                refine lv_aload_n hx hb dL_fits_743 rfl (lv_at hl 14 rfl) ?_
                refine lv_bipush (v := 12) hx hb dL_fits_744 (by decide) ?_
                refine xpV (rest := []) ⟨hx, hb, hml, hown, hts⟩ (x_count l G cI cQ d o hE 12) (cwV 1 hts gL_fits_X4_count rfl rfl rfl cd_X4_count ⟨Nat.le_of_ble_eq_true rfl, Nat.le_of_ble_eq_true rfl⟩) hK (P_tl (P_tl hP)) rfl hl.1 rfl (Nat.le_of_ble_eq_true rfl) dL_fits_746 ⟨Nat.le_of_ble_eq_true rfl, Nat.le_of_ble_eq_true rfl⟩ ?_
                refine lv_cvt (y := (kmo (eC o))) (rfl) ?_
                refine lv_iload hx hb dL_fits_749 (lv_at hl 8 rfl) ?_
                refine lv_icmp_ne (tgt := 767) hx hb dL_fits_751 (by decide) (fun c => False.elim (c w.1.2.2.2.2.2.2.2)) (fun _ => ?_)
                refine lv_aload_n hx hb dL_fits_754 rfl (lv_at hl 14 rfl) ?_
                refine lv_bipush (v := 10) hx hb dL_fits_755 (by decide) ?_
                refine xpV (rest := []) ⟨hx, hb, hml, hown, hts⟩ (x_count l G cI cQ d o hE 10) (cwV 1 hts gL_fits_X4_count rfl rfl rfl cd_X4_count ⟨Nat.le_of_ble_eq_true rfl, Nat.le_of_ble_eq_true rfl⟩) hK (P_tl (P_tl hP)) rfl hl.1 rfl (Nat.le_of_ble_eq_true rfl) dL_fits_757 ⟨Nat.le_of_ble_eq_true rfl, Nat.le_of_ble_eq_true rfl⟩ ?_
                refine lv_cvt (y := (kbu (eC o))) (rfl) ?_
                refine lv_if_lt (tgt := 767) hx hb dL_fits_760 (by decide) (fun c => False.elim (by rw [w.2.1] at c; have := w.2.2; exact nI_pos (by omega) c)) (fun _ => ?_)
                refine lv_iconst (v := 1) hx hb dL_fits_763 (by decide) ?_
                refine lv_goto (tgt := 768) hx hb dL_fits_764 (by decide) ?_
                exact m_ret (ty := .boolean) o hx hb hr hlocks rfl ⟨rfl, ⟨hE, rfl⟩⟩ (P_tl (P_tl hP)) (D_tl (D_tl hD)) hS dL_fits_768
              · skip
                refine lv_cvt (y := 0) (vc9f w.1 ge) ?_
                refine lv_iload hx hb dL_fits_724 (lv_at hl 3 rfl) ?_
                refine lv_aload_n hx hb dL_fits_726 rfl (lv_at hl 14 rfl) ?_
                refine lv_bipush (v := 8) hx hb dL_fits_727 (by decide) ?_
                refine xpV (rest := [.int (nI (mxN (loadN (eC o)) (knv (eC o)))), .int 0]) ⟨hx, hb, hml, hown, hts⟩ (x_count l G cI cQ d o hE 8) (cwV 1 hts gL_fits_X4_count rfl rfl rfl cd_X4_count ⟨Nat.le_of_ble_eq_true rfl, Nat.le_of_ble_eq_true rfl⟩) hK (P_tl (P_tl hP)) rfl hl.1 rfl (Nat.le_of_ble_eq_true rfl) dL_fits_729 ⟨Nat.le_of_ble_eq_true rfl, Nat.le_of_ble_eq_true rfl⟩ ?_
                refine lv_cvt (y := (nI (tgN (eC o)))) (vc8 w.1) ?_
                refine lv_icmp_gt (tgt := 739) hx hb dL_fits_732 (by decide) (fun _ => ?_) (fun c => False.elim (c ((nI_ltI (b := gtN (eC o)) (by omega) (by omega)).mpr (by omega))))
                refine lv_iconst (v := 0) hx hb dL_fits_739 (by decide) ?_
                refine lv_icmp_ne (tgt := 767) hx hb dL_fits_740 (by decide) (fun c => absurd c (by decide)) (fun _ => ?_)
                refine lv_aload_n hx hb dL_fits_743 rfl (lv_at hl 14 rfl) ?_
                refine lv_bipush (v := 12) hx hb dL_fits_744 (by decide) ?_
                refine xpV (rest := []) ⟨hx, hb, hml, hown, hts⟩ (x_count l G cI cQ d o hE 12) (cwV 1 hts gL_fits_X4_count rfl rfl rfl cd_X4_count ⟨Nat.le_of_ble_eq_true rfl, Nat.le_of_ble_eq_true rfl⟩) hK (P_tl (P_tl hP)) rfl hl.1 rfl (Nat.le_of_ble_eq_true rfl) dL_fits_746 ⟨Nat.le_of_ble_eq_true rfl, Nat.le_of_ble_eq_true rfl⟩ ?_
                refine lv_cvt (y := (kmo (eC o))) (rfl) ?_
                refine lv_iload hx hb dL_fits_749 (lv_at hl 8 rfl) ?_
                refine lv_icmp_ne (tgt := 767) hx hb dL_fits_751 (by decide) (fun c => False.elim (c w.1.2.2.2.2.2.2.2)) (fun _ => ?_)
                refine lv_aload_n hx hb dL_fits_754 rfl (lv_at hl 14 rfl) ?_
                refine lv_bipush (v := 10) hx hb dL_fits_755 (by decide) ?_
                refine xpV (rest := []) ⟨hx, hb, hml, hown, hts⟩ (x_count l G cI cQ d o hE 10) (cwV 1 hts gL_fits_X4_count rfl rfl rfl cd_X4_count ⟨Nat.le_of_ble_eq_true rfl, Nat.le_of_ble_eq_true rfl⟩) hK (P_tl (P_tl hP)) rfl hl.1 rfl (Nat.le_of_ble_eq_true rfl) dL_fits_757 ⟨Nat.le_of_ble_eq_true rfl, Nat.le_of_ble_eq_true rfl⟩ ?_
                refine lv_cvt (y := (kbu (eC o))) (rfl) ?_
                refine lv_if_lt (tgt := 767) hx hb dL_fits_760 (by decide) (fun c => False.elim (by rw [w.2.1] at c; have := w.2.2; exact nI_pos (by omega) c)) (fun _ => ?_)
                refine lv_iconst (v := 1) hx hb dL_fits_763 (by decide) ?_
                refine lv_goto (tgt := 768) hx hb dL_fits_764 (by decide) ?_
                exact m_ret (ty := .boolean) o hx hb hr hlocks rfl ⟨rfl, ⟨hE, rfl⟩⟩ (P_tl (P_tl hP)) (D_tl (D_tl hD)) hS dL_fits_768
            · skip
              refine lv_iload hx hb dL_fits_605 (lv_at hl 0 rfl) ?_
              refine lv_goto (tgt := 612) hx hb dL_fits_607 (by decide) ?_
              refine lv_cvt (y := (nI (bdN (eC o)))) (congrArg nI (show avN (eC o) = bdN (eC o) from (Nat.max_eq_left (Nat.le_of_lt (Nat.lt_of_not_le (fun q => c602 ((nI_leI (b := bgN (eC o)) (by omega) (by omega)).mpr q))))).symm)) ?_
              refine lv_istore (lv' := [(14, .int (nI (bdN (eC o)))), (13, .int (nI (avN (eC o)))), (12, .int (nI (lsN (eC o) (knv (eC o))))), (11, .int (nI (mxN (loadN (eC o)) (knv (eC o))))), (10, .int (nI (su (oN (eC o)) (knv (eC o))))), (9, .int 1), (8, .ref ma), (7, .ref la), (6, .int (mvF (eC o) (knj (eC o)))), (5, .int (nI (mxN (azN (eC o)) (knj (eC o))))), (4, .int (nI (su (mnN (eC o) 9) (knj (eC o))))), (3, .int (nI (su (azN (eC o)) (knj (eC o))))), (2, .int (nI (knj (eC o)))), (1, .int (nI (knv (eC o)))), (0, .ref (adE d))]) hx hb dL_fits_612 hl (by decide) rfl (fun ls hl => ?_)
              refine lv_iload hx hb dL_fits_614 (lv_at hl 5 rfl) ?_
              refine lv_if_eq (tgt := 767) hx hb dL_fits_616 (by decide) (fun c => absurd c (by decide)) (fun _ => ?_)
              refine lv_aload_n hx hb dL_fits_619 rfl (lv_at hl 14 rfl) ?_
              refine lv_iconst (v := 1) hx hb dL_fits_620 (by decide) ?_
              refine xpV (rest := []) ⟨hx, hb, hml, hown, hts⟩ (x_count l G cI cQ d o hE 1) (cwV 1 hts gL_fits_X4_count rfl rfl rfl cd_X4_count ⟨Nat.le_of_ble_eq_true rfl, Nat.le_of_ble_eq_true rfl⟩) hK (P_tl (P_tl hP)) rfl hl.1 rfl (Nat.le_of_ble_eq_true rfl) dL_fits_621 ⟨Nat.le_of_ble_eq_true rfl, Nat.le_of_ble_eq_true rfl⟩ ?_
              refine lv_cvt (y := (nI (opN (eC o)))) (vc1 w.1) ?_
              refine lv_iload hx hb dL_fits_624 (lv_at hl 4 rfl) ?_
              refine lv_icmp_ne (tgt := 767) hx hb dL_fits_626 (by decide) (fun c => False.elim (c rfl)) (fun _ => ?_)
              refine lv_iload_n hx hb dL_fits_629 rfl (lv_at hl 13 rfl) ?_
              refine lv_if_eq (tgt := 638) hx hb dL_fits_630 (by decide) (fun _ => ?_) (fun c => False.elim (c (congrArg nI n0)))
              refine lv_aload_n hx hb dL_fits_638 rfl (lv_at hl 14 rfl) ?_
              refine lv_iconst (v := 3) hx hb dL_fits_639 (by decide) ?_
              refine xpV (rest := []) ⟨hx, hb, hml, hown, hts⟩ (x_count l G cI cQ d o hE 3) (cwV 1 hts gL_fits_X4_count rfl rfl rfl cd_X4_count ⟨Nat.le_of_ble_eq_true rfl, Nat.le_of_ble_eq_true rfl⟩) hK (P_tl (P_tl hP)) rfl hl.1 rfl (Nat.le_of_ble_eq_true rfl) dL_fits_640 ⟨Nat.le_of_ble_eq_true rfl, Nat.le_of_ble_eq_true rfl⟩ ?_
              refine lv_cvt (y := (nI (su (mnN (eC o) 9) (knj (eC o))))) (vc3 w.1) ?_
              refine lv_iload hx hb dL_fits_643 (lv_at hl 10 rfl) ?_
              refine lv_icmp_ne (tgt := 767) hx hb dL_fits_645 (by decide) (fun c => False.elim (c rfl)) (fun _ => ?_)
              refine lv_aload_n hx hb dL_fits_648 rfl (lv_at hl 14 rfl) ?_
              refine lv_iconst (v := 4) hx hb dL_fits_649 (by decide) ?_
              refine xpV (rest := []) ⟨hx, hb, hml, hown, hts⟩ (x_count l G cI cQ d o hE 4) (cwV 1 hts gL_fits_X4_count rfl rfl rfl cd_X4_count ⟨Nat.le_of_ble_eq_true rfl, Nat.le_of_ble_eq_true rfl⟩) hK (P_tl (P_tl hP)) rfl hl.1 rfl (Nat.le_of_ble_eq_true rfl) dL_fits_650 ⟨Nat.le_of_ble_eq_true rfl, Nat.le_of_ble_eq_true rfl⟩ ?_
              refine lv_cvt (y := (nI (allN (eC o)))) (vc4 w.1) ?_
              refine lv_iload_n hx hb dL_fits_653 rfl (lv_at hl 11 rfl) ?_
              refine lv_icmp_ne (tgt := 767) hx hb dL_fits_654 (by decide) (fun c => False.elim (c rfl)) (fun _ => ?_)
              refine lv_aload_n hx hb dL_fits_657 rfl (lv_at hl 14 rfl) ?_
              refine lv_iconst (v := 5) hx hb dL_fits_658 (by decide) ?_
              refine xpV (rest := []) ⟨hx, hb, hml, hown, hts⟩ (x_count l G cI cQ d o hE 5) (cwV 1 hts gL_fits_X4_count rfl rfl rfl cd_X4_count ⟨Nat.le_of_ble_eq_true rfl, Nat.le_of_ble_eq_true rfl⟩) hK (P_tl (P_tl hP)) rfl hl.1 rfl (Nat.le_of_ble_eq_true rfl) dL_fits_659 ⟨Nat.le_of_ble_eq_true rfl, Nat.le_of_ble_eq_true rfl⟩ ?_
              refine lv_cvt (y := (nI (gtN (eC o)))) (vc5 w.1) ?_
              refine lv_iload hx hb dL_fits_662 (lv_at hl 3 rfl) ?_
              refine lv_icmp_ne (tgt := 767) hx hb dL_fits_664 (by decide) (fun c => False.elim (c rfl)) (fun _ => ?_)
              refine lv_aload_n hx hb dL_fits_667 rfl (lv_at hl 14 rfl) ?_
              refine lv_bipush (v := 6) hx hb dL_fits_668 (by decide) ?_
              refine xpV (rest := []) ⟨hx, hb, hml, hown, hts⟩ (x_count l G cI cQ d o hE 6) (cwV 1 hts gL_fits_X4_count rfl rfl rfl cd_X4_count ⟨Nat.le_of_ble_eq_true rfl, Nat.le_of_ble_eq_true rfl⟩) hK (P_tl (P_tl hP)) rfl hl.1 rfl (Nat.le_of_ble_eq_true rfl) dL_fits_670 ⟨Nat.le_of_ble_eq_true rfl, Nat.le_of_ble_eq_true rfl⟩ ?_
              refine lv_cvt (y := 0) (vc6z n0) ?_
              refine lv_iload_n hx hb dL_fits_673 rfl (lv_at hl 13 rfl) ?_
              refine lv_if_ne (tgt := 681) hx hb dL_fits_674 (by decide) (fun c => False.elim (c (congrArg nI n0))) (fun _ => ?_)
              refine lv_iconst (v := 0) hx hb dL_fits_677 (by decide) ?_
              refine lv_goto (tgt := 683) hx hb dL_fits_678 (by decide) ?_
              refine lv_icmp_ne (tgt := 767) hx hb dL_fits_683 (by decide) (fun c => False.elim (c rfl)) (fun _ => ?_)
              refine lv_aload_n hx hb dL_fits_686 rfl (lv_at hl 14 rfl) ?_
              refine lv_bipush (v := 7) hx hb dL_fits_687 (by decide) ?_
              refine xpV (rest := []) ⟨hx, hb, hml, hown, hts⟩ (x_count l G cI cQ d o hE 7) (cwV 1 hts gL_fits_X4_count rfl rfl rfl cd_X4_count ⟨Nat.le_of_ble_eq_true rfl, Nat.le_of_ble_eq_true rfl⟩) hK (P_tl (P_tl hP)) rfl hl.1 rfl (Nat.le_of_ble_eq_true rfl) dL_fits_689 ⟨Nat.le_of_ble_eq_true rfl, Nat.le_of_ble_eq_true rfl⟩ ?_
              refine lv_cvt (y := (nI (bdN (eC o)))) (vc7 w.1) ?_
              refine lv_iload hx hb dL_fits_692 (lv_at hl 0 rfl) ?_
              refine lv_icmp_ne (tgt := 767) hx hb dL_fits_694 (by decide) (fun c => False.elim (c rfl)) (fun _ => ?_)
              refine lv_aload_n hx hb dL_fits_697 rfl (lv_at hl 14 rfl) ?_
              refine lv_bipush (v := 8) hx hb dL_fits_698 (by decide) ?_
              refine xpV (rest := []) ⟨hx, hb, hml, hown, hts⟩ (x_count l G cI cQ d o hE 8) (cwV 1 hts gL_fits_X4_count rfl rfl rfl cd_X4_count ⟨Nat.le_of_ble_eq_true rfl, Nat.le_of_ble_eq_true rfl⟩) hK (P_tl (P_tl hP)) rfl hl.1 rfl (Nat.le_of_ble_eq_true rfl) dL_fits_700 ⟨Nat.le_of_ble_eq_true rfl, Nat.le_of_ble_eq_true rfl⟩ ?_
              refine lv_cvt (y := (nI (tgN (eC o)))) (vc8 w.1) ?_
              refine lv_iload hx hb dL_fits_703 (lv_at hl 0 rfl) ?_
              refine lv_aload_n hx hb dL_fits_705 rfl (lv_at hl 14 rfl) ?_
              refine lv_bipush (v := 11) hx hb dL_fits_706 (by decide) ?_
              refine xpV (rest := [.int (nI (bdN (eC o))), .int (nI (tgN (eC o)))]) ⟨hx, hb, hml, hown, hts⟩ (x_count l G cI cQ d o hE 11) (cwV 1 hts gL_fits_X4_count rfl rfl rfl cd_X4_count ⟨Nat.le_of_ble_eq_true rfl, Nat.le_of_ble_eq_true rfl⟩) hK (P_tl (P_tl hP)) rfl hl.1 rfl (Nat.le_of_ble_eq_true rfl) dL_fits_708 ⟨Nat.le_of_ble_eq_true rfl, Nat.le_of_ble_eq_true rfl⟩ ?_
              refine lv_cvt (y := (nI (faN (eC o)))) (w.1.2.2.2.2.2.2.1.1) ?_
              refine lv_imul hx hb dL_fits_711 ?_
              refine lv_cvt (y := (nI (bdN (eC o) * faN (eC o)))) (pk_mul _ _) ?_
              refine lv_bipush (v := 100) hx hb dL_fits_712 (by decide) ?_
              refine lv_idiv hx hb dL_fits_714 (by decide) ?_
              refine lv_cvt (y := (nI (tgN (eC o)))) (pk_div (d := 100) (by have : bdN (eC o) * faN (eC o) ≤ 24000 * 400 := Nat.mul_le_mul bdB w.1.2.2.2.2.2.2.1.2.2; omega) (by decide) (by decide)) ?_
              refine lv_icmp_ne (tgt := 767) hx hb dL_fits_715 (by decide) (fun c => False.elim (c rfl)) (fun _ => ?_)
              refine lv_aload_n hx hb dL_fits_718 rfl (lv_at hl 14 rfl) ?_
              refine lv_bipush (v := 9) hx hb dL_fits_719 (by decide) ?_
              refine xpV (rest := []) ⟨hx, hb, hml, hown, hts⟩ (x_count l G cI cQ d o hE 9) (cwV 1 hts gL_fits_X4_count rfl rfl rfl cd_X4_count ⟨Nat.le_of_ble_eq_true rfl, Nat.le_of_ble_eq_true rfl⟩) hK (P_tl (P_tl hP)) rfl hl.1 rfl (Nat.le_of_ble_eq_true rfl) dL_fits_721 ⟨Nat.le_of_ble_eq_true rfl, Nat.le_of_ble_eq_true rfl⟩ ?_
              by_cases ge : gtN (eC o) ≤ tgN (eC o)
              · skip
                refine lv_cvt (y := 1) (vc9t w.1 ge) ?_
                refine lv_iload hx hb dL_fits_724 (lv_at hl 3 rfl) ?_
                refine lv_aload_n hx hb dL_fits_726 rfl (lv_at hl 14 rfl) ?_
                refine lv_bipush (v := 8) hx hb dL_fits_727 (by decide) ?_
                refine xpV (rest := [.int (nI (mxN (loadN (eC o)) (knv (eC o)))), .int 1]) ⟨hx, hb, hml, hown, hts⟩ (x_count l G cI cQ d o hE 8) (cwV 1 hts gL_fits_X4_count rfl rfl rfl cd_X4_count ⟨Nat.le_of_ble_eq_true rfl, Nat.le_of_ble_eq_true rfl⟩) hK (P_tl (P_tl hP)) rfl hl.1 rfl (Nat.le_of_ble_eq_true rfl) dL_fits_729 ⟨Nat.le_of_ble_eq_true rfl, Nat.le_of_ble_eq_true rfl⟩ ?_
                refine lv_cvt (y := (nI (tgN (eC o)))) (vc8 w.1) ?_
                refine lv_icmp_gt (tgt := 739) hx hb dL_fits_732 (by decide) (fun c => False.elim (absurd ((nI_ltI (b := gtN (eC o)) (by omega) (by omega)).mp c) (by omega))) (fun _ => ?_)
                refine lv_iconst (v := 1) hx hb dL_fits_735 (by decide) ?_
                refine lv_goto (tgt := 740) hx hb dL_fits_736 (by decide) ?_
                refine lv_icmp_ne (tgt := 767) hx hb dL_fits_740 (by decide) (fun c => absurd c (by decide)) (fun _ => ?_)
                refine lv_aload_n hx hb dL_fits_743 rfl (lv_at hl 14 rfl) ?_
                refine lv_bipush (v := 12) hx hb dL_fits_744 (by decide) ?_
                refine xpV (rest := []) ⟨hx, hb, hml, hown, hts⟩ (x_count l G cI cQ d o hE 12) (cwV 1 hts gL_fits_X4_count rfl rfl rfl cd_X4_count ⟨Nat.le_of_ble_eq_true rfl, Nat.le_of_ble_eq_true rfl⟩) hK (P_tl (P_tl hP)) rfl hl.1 rfl (Nat.le_of_ble_eq_true rfl) dL_fits_746 ⟨Nat.le_of_ble_eq_true rfl, Nat.le_of_ble_eq_true rfl⟩ ?_
                refine lv_cvt (y := (kmo (eC o))) (rfl) ?_
                refine lv_iload hx hb dL_fits_749 (lv_at hl 8 rfl) ?_
                refine lv_icmp_ne (tgt := 767) hx hb dL_fits_751 (by decide) (fun c => False.elim (c w.1.2.2.2.2.2.2.2)) (fun _ => ?_)
                refine lv_aload_n hx hb dL_fits_754 rfl (lv_at hl 14 rfl) ?_
                refine lv_bipush (v := 10) hx hb dL_fits_755 (by decide) ?_
                refine xpV (rest := []) ⟨hx, hb, hml, hown, hts⟩ (x_count l G cI cQ d o hE 10) (cwV 1 hts gL_fits_X4_count rfl rfl rfl cd_X4_count ⟨Nat.le_of_ble_eq_true rfl, Nat.le_of_ble_eq_true rfl⟩) hK (P_tl (P_tl hP)) rfl hl.1 rfl (Nat.le_of_ble_eq_true rfl) dL_fits_757 ⟨Nat.le_of_ble_eq_true rfl, Nat.le_of_ble_eq_true rfl⟩ ?_
                refine lv_cvt (y := (kbu (eC o))) (rfl) ?_
                refine lv_if_lt (tgt := 767) hx hb dL_fits_760 (by decide) (fun c => False.elim (by rw [w.2.1] at c; have := w.2.2; exact nI_pos (by omega) c)) (fun _ => ?_)
                refine lv_iconst (v := 1) hx hb dL_fits_763 (by decide) ?_
                refine lv_goto (tgt := 768) hx hb dL_fits_764 (by decide) ?_
                exact m_ret (ty := .boolean) o hx hb hr hlocks rfl ⟨rfl, ⟨hE, rfl⟩⟩ (P_tl (P_tl hP)) (D_tl (D_tl hD)) hS dL_fits_768
              · skip
                refine lv_cvt (y := 0) (vc9f w.1 ge) ?_
                refine lv_iload hx hb dL_fits_724 (lv_at hl 3 rfl) ?_
                refine lv_aload_n hx hb dL_fits_726 rfl (lv_at hl 14 rfl) ?_
                refine lv_bipush (v := 8) hx hb dL_fits_727 (by decide) ?_
                refine xpV (rest := [.int (nI (mxN (loadN (eC o)) (knv (eC o)))), .int 0]) ⟨hx, hb, hml, hown, hts⟩ (x_count l G cI cQ d o hE 8) (cwV 1 hts gL_fits_X4_count rfl rfl rfl cd_X4_count ⟨Nat.le_of_ble_eq_true rfl, Nat.le_of_ble_eq_true rfl⟩) hK (P_tl (P_tl hP)) rfl hl.1 rfl (Nat.le_of_ble_eq_true rfl) dL_fits_729 ⟨Nat.le_of_ble_eq_true rfl, Nat.le_of_ble_eq_true rfl⟩ ?_
                refine lv_cvt (y := (nI (tgN (eC o)))) (vc8 w.1) ?_
                refine lv_icmp_gt (tgt := 739) hx hb dL_fits_732 (by decide) (fun _ => ?_) (fun c => False.elim (c ((nI_ltI (b := gtN (eC o)) (by omega) (by omega)).mpr (by omega))))
                refine lv_iconst (v := 0) hx hb dL_fits_739 (by decide) ?_
                refine lv_icmp_ne (tgt := 767) hx hb dL_fits_740 (by decide) (fun c => absurd c (by decide)) (fun _ => ?_)
                refine lv_aload_n hx hb dL_fits_743 rfl (lv_at hl 14 rfl) ?_
                refine lv_bipush (v := 12) hx hb dL_fits_744 (by decide) ?_
                refine xpV (rest := []) ⟨hx, hb, hml, hown, hts⟩ (x_count l G cI cQ d o hE 12) (cwV 1 hts gL_fits_X4_count rfl rfl rfl cd_X4_count ⟨Nat.le_of_ble_eq_true rfl, Nat.le_of_ble_eq_true rfl⟩) hK (P_tl (P_tl hP)) rfl hl.1 rfl (Nat.le_of_ble_eq_true rfl) dL_fits_746 ⟨Nat.le_of_ble_eq_true rfl, Nat.le_of_ble_eq_true rfl⟩ ?_
                refine lv_cvt (y := (kmo (eC o))) (rfl) ?_
                refine lv_iload hx hb dL_fits_749 (lv_at hl 8 rfl) ?_
                refine lv_icmp_ne (tgt := 767) hx hb dL_fits_751 (by decide) (fun c => False.elim (c w.1.2.2.2.2.2.2.2)) (fun _ => ?_)
                refine lv_aload_n hx hb dL_fits_754 rfl (lv_at hl 14 rfl) ?_
                refine lv_bipush (v := 10) hx hb dL_fits_755 (by decide) ?_
                refine xpV (rest := []) ⟨hx, hb, hml, hown, hts⟩ (x_count l G cI cQ d o hE 10) (cwV 1 hts gL_fits_X4_count rfl rfl rfl cd_X4_count ⟨Nat.le_of_ble_eq_true rfl, Nat.le_of_ble_eq_true rfl⟩) hK (P_tl (P_tl hP)) rfl hl.1 rfl (Nat.le_of_ble_eq_true rfl) dL_fits_757 ⟨Nat.le_of_ble_eq_true rfl, Nat.le_of_ble_eq_true rfl⟩ ?_
                refine lv_cvt (y := (kbu (eC o))) (rfl) ?_
                refine lv_if_lt (tgt := 767) hx hb dL_fits_760 (by decide) (fun c => False.elim (by rw [w.2.1] at c; have := w.2.2; exact nI_pos (by omega) c)) (fun _ => ?_)
                refine lv_iconst (v := 1) hx hb dL_fits_763 (by decide) ?_
                refine lv_goto (tgt := 768) hx hb dL_fits_764 (by decide) ?_
                exact m_ret (ty := .boolean) o hx hb hr hlocks rfl ⟨rfl, ⟨hE, rfl⟩⟩ (P_tl (P_tl hP)) (D_tl (D_tl hD)) hS dL_fits_768
          · skip
            have op0 : 0 < opN (eC o) := w.1.2.2.2.2.1.2.resolve_left n0
            refine lv_iload hx hb dL_fits_578 (lv_at hl 3 rfl) ?_
            refine lv_if_ne (tgt := 587) hx hb dL_fits_580 (by decide) (fun _ => ?_) (fun c => False.elim (nI_ne0 (n := opN (eC o)) op0 (by omega) c))
            refine lv_iload_n hx hb dL_fits_587 rfl (lv_at hl 10 rfl) ?_
            refine lv_iload hx hb dL_fits_588 (lv_at hl 3 rfl) ?_
            refine lv_iadd hx hb dL_fits_590 ?_
            refine lv_cvt (y := (nI (allN (eC o) + opN (eC o)))) (nI_add _ _) ?_
            refine lv_iconst (v := 1) hx hb dL_fits_591 (by decide) ?_
            refine lv_isub hx hb dL_fits_592 ?_
            refine lv_cvt (y := (nI (allN (eC o) + opN (eC o) - 1))) (pk_sub (b := 1) (by omega)) ?_
            refine lv_iload hx hb dL_fits_593 (lv_at hl 3 rfl) ?_
            refine lv_idiv hx hb dL_fits_595 (nI_ne0 (n := opN (eC o)) op0 (by omega)) ?_
            refine lv_cvt (y := (nI (avN (eC o)))) ((pk_div (d := opN (eC o)) (by omega) op0 (by omega)).trans (congrArg nI (show _ = avN (eC o) from (if_neg (by omega)).symm))) ?_
            refine lv_istore (lv' := [(13, .int (nI (avN (eC o)))), (12, .int (nI (lsN (eC o) (knv (eC o))))), (11, .int (nI (mxN (loadN (eC o)) (knv (eC o))))), (10, .int (nI (su (oN (eC o)) (knv (eC o))))), (9, .int 1), (8, .ref ma), (7, .ref la), (6, .int (mvF (eC o) (knj (eC o)))), (5, .int (nI (mxN (azN (eC o)) (knj (eC o))))), (4, .int (nI (su (mnN (eC o) 9) (knj (eC o))))), (3, .int (nI (su (azN (eC o)) (knj (eC o))))), (2, .int (nI (knj (eC o)))), (1, .int (nI (knv (eC o)))), (0, .ref (adE d))]) hx hb dL_fits_596 hl (by decide) rfl (fun ls hl => ?_)
            refine lv_iload hx hb dL_fits_598 (lv_at hl 0 rfl) ?_
            refine lv_iload hx hb dL_fits_600 (lv_at hl 8 rfl) ?_
            refine lv_icmp_le (tgt := 610) hx hb dL_fits_602 (by decide) (fun c602 => ?_) (fun c602 => ?_)
            · skip
              refine lv_iload hx hb dL_fits_610 (lv_at hl 8 rfl) ?_
              refine lv_cvt (y := (nI (bdN (eC o)))) (congrArg nI (show bgN (eC o) = bdN (eC o) from (Nat.max_eq_right ((nI_leI (b := bgN (eC o)) (by omega) (by omega)).mp c602)).symm)) ?_
              refine lv_istore (lv' := [(14, .int (nI (bdN (eC o)))), (13, .int (nI (avN (eC o)))), (12, .int (nI (lsN (eC o) (knv (eC o))))), (11, .int (nI (mxN (loadN (eC o)) (knv (eC o))))), (10, .int (nI (su (oN (eC o)) (knv (eC o))))), (9, .int 1), (8, .ref ma), (7, .ref la), (6, .int (mvF (eC o) (knj (eC o)))), (5, .int (nI (mxN (azN (eC o)) (knj (eC o))))), (4, .int (nI (su (mnN (eC o) 9) (knj (eC o))))), (3, .int (nI (su (azN (eC o)) (knj (eC o))))), (2, .int (nI (knj (eC o)))), (1, .int (nI (knv (eC o)))), (0, .ref (adE d))]) hx hb dL_fits_612 hl (by decide) rfl (fun ls hl => ?_)
              refine lv_iload hx hb dL_fits_614 (lv_at hl 5 rfl) ?_
              refine lv_if_eq (tgt := 767) hx hb dL_fits_616 (by decide) (fun c => absurd c (by decide)) (fun _ => ?_)
              refine lv_aload_n hx hb dL_fits_619 rfl (lv_at hl 14 rfl) ?_
              refine lv_iconst (v := 1) hx hb dL_fits_620 (by decide) ?_
              refine xpV (rest := []) ⟨hx, hb, hml, hown, hts⟩ (x_count l G cI cQ d o hE 1) (cwV 1 hts gL_fits_X4_count rfl rfl rfl cd_X4_count ⟨Nat.le_of_ble_eq_true rfl, Nat.le_of_ble_eq_true rfl⟩) hK (P_tl (P_tl hP)) rfl hl.1 rfl (Nat.le_of_ble_eq_true rfl) dL_fits_621 ⟨Nat.le_of_ble_eq_true rfl, Nat.le_of_ble_eq_true rfl⟩ ?_
              refine lv_cvt (y := (nI (opN (eC o)))) (vc1 w.1) ?_
              refine lv_iload hx hb dL_fits_624 (lv_at hl 4 rfl) ?_
              refine lv_icmp_ne (tgt := 767) hx hb dL_fits_626 (by decide) (fun c => False.elim (c rfl)) (fun _ => ?_)
              refine lv_iload_n hx hb dL_fits_629 rfl (lv_at hl 13 rfl) ?_
              refine lv_if_eq (tgt := 638) hx hb dL_fits_630 (by decide) (fun c => False.elim (n0 ((nI_eq (b := 0) (by omega) (by decide)).mp c))) (fun _ => ?_)
              refine lv_iload hx hb dL_fits_633 (lv_at hl 4 rfl) ?_
              refine lv_if_le (tgt := 767) hx hb dL_fits_635 (by decide) (fun c => False.elim (nI_nle (n := opN (eC o)) op0 (by omega) c)) (fun _ => ?_)
              refine lv_aload_n hx hb dL_fits_638 rfl (lv_at hl 14 rfl) ?_
              refine lv_iconst (v := 3) hx hb dL_fits_639 (by decide) ?_
              refine xpV (rest := []) ⟨hx, hb, hml, hown, hts⟩ (x_count l G cI cQ d o hE 3) (cwV 1 hts gL_fits_X4_count rfl rfl rfl cd_X4_count ⟨Nat.le_of_ble_eq_true rfl, Nat.le_of_ble_eq_true rfl⟩) hK (P_tl (P_tl hP)) rfl hl.1 rfl (Nat.le_of_ble_eq_true rfl) dL_fits_640 ⟨Nat.le_of_ble_eq_true rfl, Nat.le_of_ble_eq_true rfl⟩ ?_
              refine lv_cvt (y := (nI (su (mnN (eC o) 9) (knj (eC o))))) (vc3 w.1) ?_
              refine lv_iload hx hb dL_fits_643 (lv_at hl 10 rfl) ?_
              refine lv_icmp_ne (tgt := 767) hx hb dL_fits_645 (by decide) (fun c => False.elim (c rfl)) (fun _ => ?_)
              refine lv_aload_n hx hb dL_fits_648 rfl (lv_at hl 14 rfl) ?_
              refine lv_iconst (v := 4) hx hb dL_fits_649 (by decide) ?_
              refine xpV (rest := []) ⟨hx, hb, hml, hown, hts⟩ (x_count l G cI cQ d o hE 4) (cwV 1 hts gL_fits_X4_count rfl rfl rfl cd_X4_count ⟨Nat.le_of_ble_eq_true rfl, Nat.le_of_ble_eq_true rfl⟩) hK (P_tl (P_tl hP)) rfl hl.1 rfl (Nat.le_of_ble_eq_true rfl) dL_fits_650 ⟨Nat.le_of_ble_eq_true rfl, Nat.le_of_ble_eq_true rfl⟩ ?_
              refine lv_cvt (y := (nI (allN (eC o)))) (vc4 w.1) ?_
              refine lv_iload_n hx hb dL_fits_653 rfl (lv_at hl 11 rfl) ?_
              refine lv_icmp_ne (tgt := 767) hx hb dL_fits_654 (by decide) (fun c => False.elim (c rfl)) (fun _ => ?_)
              refine lv_aload_n hx hb dL_fits_657 rfl (lv_at hl 14 rfl) ?_
              refine lv_iconst (v := 5) hx hb dL_fits_658 (by decide) ?_
              refine xpV (rest := []) ⟨hx, hb, hml, hown, hts⟩ (x_count l G cI cQ d o hE 5) (cwV 1 hts gL_fits_X4_count rfl rfl rfl cd_X4_count ⟨Nat.le_of_ble_eq_true rfl, Nat.le_of_ble_eq_true rfl⟩) hK (P_tl (P_tl hP)) rfl hl.1 rfl (Nat.le_of_ble_eq_true rfl) dL_fits_659 ⟨Nat.le_of_ble_eq_true rfl, Nat.le_of_ble_eq_true rfl⟩ ?_
              refine lv_cvt (y := (nI (gtN (eC o)))) (vc5 w.1) ?_
              refine lv_iload hx hb dL_fits_662 (lv_at hl 3 rfl) ?_
              refine lv_icmp_ne (tgt := 767) hx hb dL_fits_664 (by decide) (fun c => False.elim (c rfl)) (fun _ => ?_)
              refine lv_aload_n hx hb dL_fits_667 rfl (lv_at hl 14 rfl) ?_
              refine lv_bipush (v := 6) hx hb dL_fits_668 (by decide) ?_
              refine xpV (rest := []) ⟨hx, hb, hml, hown, hts⟩ (x_count l G cI cQ d o hE 6) (cwV 1 hts gL_fits_X4_count rfl rfl rfl cd_X4_count ⟨Nat.le_of_ble_eq_true rfl, Nat.le_of_ble_eq_true rfl⟩) hK (P_tl (P_tl hP)) rfl hl.1 rfl (Nat.le_of_ble_eq_true rfl) dL_fits_670 ⟨Nat.le_of_ble_eq_true rfl, Nat.le_of_ble_eq_true rfl⟩ ?_
              refine lv_cvt (y := (nI (lsN (eC o) (knv (eC o))))) (vc6 w.1 (Nat.pos_of_ne_zero n0)) ?_
              refine lv_iload_n hx hb dL_fits_673 rfl (lv_at hl 13 rfl) ?_
              refine lv_if_ne (tgt := 681) hx hb dL_fits_674 (by decide) (fun _ => ?_) (fun c => False.elim (n0 ((nI_eq (b := 0) (by omega) (by decide)).mp c)))
              refine lv_iload hx hb dL_fits_681 (lv_at hl 2 rfl) ?_
              refine lv_icmp_ne (tgt := 767) hx hb dL_fits_683 (by decide) (fun c => False.elim (c rfl)) (fun _ => ?_)
              refine lv_aload_n hx hb dL_fits_686 rfl (lv_at hl 14 rfl) ?_
              refine lv_bipush (v := 7) hx hb dL_fits_687 (by decide) ?_
              refine xpV (rest := []) ⟨hx, hb, hml, hown, hts⟩ (x_count l G cI cQ d o hE 7) (cwV 1 hts gL_fits_X4_count rfl rfl rfl cd_X4_count ⟨Nat.le_of_ble_eq_true rfl, Nat.le_of_ble_eq_true rfl⟩) hK (P_tl (P_tl hP)) rfl hl.1 rfl (Nat.le_of_ble_eq_true rfl) dL_fits_689 ⟨Nat.le_of_ble_eq_true rfl, Nat.le_of_ble_eq_true rfl⟩ ?_
              refine lv_cvt (y := (nI (bdN (eC o)))) (vc7 w.1) ?_
              refine lv_iload hx hb dL_fits_692 (lv_at hl 0 rfl) ?_
              refine lv_icmp_ne (tgt := 767) hx hb dL_fits_694 (by decide) (fun c => False.elim (c rfl)) (fun _ => ?_)
              refine lv_aload_n hx hb dL_fits_697 rfl (lv_at hl 14 rfl) ?_
              refine lv_bipush (v := 8) hx hb dL_fits_698 (by decide) ?_
              refine xpV (rest := []) ⟨hx, hb, hml, hown, hts⟩ (x_count l G cI cQ d o hE 8) (cwV 1 hts gL_fits_X4_count rfl rfl rfl cd_X4_count ⟨Nat.le_of_ble_eq_true rfl, Nat.le_of_ble_eq_true rfl⟩) hK (P_tl (P_tl hP)) rfl hl.1 rfl (Nat.le_of_ble_eq_true rfl) dL_fits_700 ⟨Nat.le_of_ble_eq_true rfl, Nat.le_of_ble_eq_true rfl⟩ ?_
              refine lv_cvt (y := (nI (tgN (eC o)))) (vc8 w.1) ?_
              refine lv_iload hx hb dL_fits_703 (lv_at hl 0 rfl) ?_
              refine lv_aload_n hx hb dL_fits_705 rfl (lv_at hl 14 rfl) ?_
              refine lv_bipush (v := 11) hx hb dL_fits_706 (by decide) ?_
              refine xpV (rest := [.int (nI (bdN (eC o))), .int (nI (tgN (eC o)))]) ⟨hx, hb, hml, hown, hts⟩ (x_count l G cI cQ d o hE 11) (cwV 1 hts gL_fits_X4_count rfl rfl rfl cd_X4_count ⟨Nat.le_of_ble_eq_true rfl, Nat.le_of_ble_eq_true rfl⟩) hK (P_tl (P_tl hP)) rfl hl.1 rfl (Nat.le_of_ble_eq_true rfl) dL_fits_708 ⟨Nat.le_of_ble_eq_true rfl, Nat.le_of_ble_eq_true rfl⟩ ?_
              refine lv_cvt (y := (nI (faN (eC o)))) (w.1.2.2.2.2.2.2.1.1) ?_
              refine lv_imul hx hb dL_fits_711 ?_
              refine lv_cvt (y := (nI (bdN (eC o) * faN (eC o)))) (pk_mul _ _) ?_
              refine lv_bipush (v := 100) hx hb dL_fits_712 (by decide) ?_
              refine lv_idiv hx hb dL_fits_714 (by decide) ?_
              refine lv_cvt (y := (nI (tgN (eC o)))) (pk_div (d := 100) (by have : bdN (eC o) * faN (eC o) ≤ 24000 * 400 := Nat.mul_le_mul bdB w.1.2.2.2.2.2.2.1.2.2; omega) (by decide) (by decide)) ?_
              refine lv_icmp_ne (tgt := 767) hx hb dL_fits_715 (by decide) (fun c => False.elim (c rfl)) (fun _ => ?_)
              refine lv_aload_n hx hb dL_fits_718 rfl (lv_at hl 14 rfl) ?_
              refine lv_bipush (v := 9) hx hb dL_fits_719 (by decide) ?_
              refine xpV (rest := []) ⟨hx, hb, hml, hown, hts⟩ (x_count l G cI cQ d o hE 9) (cwV 1 hts gL_fits_X4_count rfl rfl rfl cd_X4_count ⟨Nat.le_of_ble_eq_true rfl, Nat.le_of_ble_eq_true rfl⟩) hK (P_tl (P_tl hP)) rfl hl.1 rfl (Nat.le_of_ble_eq_true rfl) dL_fits_721 ⟨Nat.le_of_ble_eq_true rfl, Nat.le_of_ble_eq_true rfl⟩ ?_
              by_cases ge : gtN (eC o) ≤ tgN (eC o)
              · skip
                refine lv_cvt (y := 1) (vc9t w.1 ge) ?_
                refine lv_iload hx hb dL_fits_724 (lv_at hl 3 rfl) ?_
                refine lv_aload_n hx hb dL_fits_726 rfl (lv_at hl 14 rfl) ?_
                refine lv_bipush (v := 8) hx hb dL_fits_727 (by decide) ?_
                refine xpV (rest := [.int (nI (mxN (loadN (eC o)) (knv (eC o)))), .int 1]) ⟨hx, hb, hml, hown, hts⟩ (x_count l G cI cQ d o hE 8) (cwV 1 hts gL_fits_X4_count rfl rfl rfl cd_X4_count ⟨Nat.le_of_ble_eq_true rfl, Nat.le_of_ble_eq_true rfl⟩) hK (P_tl (P_tl hP)) rfl hl.1 rfl (Nat.le_of_ble_eq_true rfl) dL_fits_729 ⟨Nat.le_of_ble_eq_true rfl, Nat.le_of_ble_eq_true rfl⟩ ?_
                refine lv_cvt (y := (nI (tgN (eC o)))) (vc8 w.1) ?_
                refine lv_icmp_gt (tgt := 739) hx hb dL_fits_732 (by decide) (fun c => False.elim (absurd ((nI_ltI (b := gtN (eC o)) (by omega) (by omega)).mp c) (by omega))) (fun _ => ?_)
                refine lv_iconst (v := 1) hx hb dL_fits_735 (by decide) ?_
                refine lv_goto (tgt := 740) hx hb dL_fits_736 (by decide) ?_
                refine lv_icmp_ne (tgt := 767) hx hb dL_fits_740 (by decide) (fun c => absurd c (by decide)) (fun _ => ?_)
                refine lv_aload_n hx hb dL_fits_743 rfl (lv_at hl 14 rfl) ?_
                refine lv_bipush (v := 12) hx hb dL_fits_744 (by decide) ?_
                refine xpV (rest := []) ⟨hx, hb, hml, hown, hts⟩ (x_count l G cI cQ d o hE 12) (cwV 1 hts gL_fits_X4_count rfl rfl rfl cd_X4_count ⟨Nat.le_of_ble_eq_true rfl, Nat.le_of_ble_eq_true rfl⟩) hK (P_tl (P_tl hP)) rfl hl.1 rfl (Nat.le_of_ble_eq_true rfl) dL_fits_746 ⟨Nat.le_of_ble_eq_true rfl, Nat.le_of_ble_eq_true rfl⟩ ?_
                refine lv_cvt (y := (kmo (eC o))) (rfl) ?_
                refine lv_iload hx hb dL_fits_749 (lv_at hl 8 rfl) ?_
                refine lv_icmp_ne (tgt := 767) hx hb dL_fits_751 (by decide) (fun c => False.elim (c w.1.2.2.2.2.2.2.2)) (fun _ => ?_)
                refine lv_aload_n hx hb dL_fits_754 rfl (lv_at hl 14 rfl) ?_
                refine lv_bipush (v := 10) hx hb dL_fits_755 (by decide) ?_
                refine xpV (rest := []) ⟨hx, hb, hml, hown, hts⟩ (x_count l G cI cQ d o hE 10) (cwV 1 hts gL_fits_X4_count rfl rfl rfl cd_X4_count ⟨Nat.le_of_ble_eq_true rfl, Nat.le_of_ble_eq_true rfl⟩) hK (P_tl (P_tl hP)) rfl hl.1 rfl (Nat.le_of_ble_eq_true rfl) dL_fits_757 ⟨Nat.le_of_ble_eq_true rfl, Nat.le_of_ble_eq_true rfl⟩ ?_
                refine lv_cvt (y := (kbu (eC o))) (rfl) ?_
                refine lv_if_lt (tgt := 767) hx hb dL_fits_760 (by decide) (fun c => False.elim (by rw [w.2.1] at c; have := w.2.2; exact nI_pos (by omega) c)) (fun _ => ?_)
                refine lv_iconst (v := 1) hx hb dL_fits_763 (by decide) ?_
                refine lv_goto (tgt := 768) hx hb dL_fits_764 (by decide) ?_
                exact m_ret (ty := .boolean) o hx hb hr hlocks rfl ⟨rfl, ⟨hE, rfl⟩⟩ (P_tl (P_tl hP)) (D_tl (D_tl hD)) hS dL_fits_768
              · skip
                refine lv_cvt (y := 0) (vc9f w.1 ge) ?_
                refine lv_iload hx hb dL_fits_724 (lv_at hl 3 rfl) ?_
                refine lv_aload_n hx hb dL_fits_726 rfl (lv_at hl 14 rfl) ?_
                refine lv_bipush (v := 8) hx hb dL_fits_727 (by decide) ?_
                refine xpV (rest := [.int (nI (mxN (loadN (eC o)) (knv (eC o)))), .int 0]) ⟨hx, hb, hml, hown, hts⟩ (x_count l G cI cQ d o hE 8) (cwV 1 hts gL_fits_X4_count rfl rfl rfl cd_X4_count ⟨Nat.le_of_ble_eq_true rfl, Nat.le_of_ble_eq_true rfl⟩) hK (P_tl (P_tl hP)) rfl hl.1 rfl (Nat.le_of_ble_eq_true rfl) dL_fits_729 ⟨Nat.le_of_ble_eq_true rfl, Nat.le_of_ble_eq_true rfl⟩ ?_
                refine lv_cvt (y := (nI (tgN (eC o)))) (vc8 w.1) ?_
                refine lv_icmp_gt (tgt := 739) hx hb dL_fits_732 (by decide) (fun _ => ?_) (fun c => False.elim (c ((nI_ltI (b := gtN (eC o)) (by omega) (by omega)).mpr (by omega))))
                refine lv_iconst (v := 0) hx hb dL_fits_739 (by decide) ?_
                refine lv_icmp_ne (tgt := 767) hx hb dL_fits_740 (by decide) (fun c => absurd c (by decide)) (fun _ => ?_)
                refine lv_aload_n hx hb dL_fits_743 rfl (lv_at hl 14 rfl) ?_
                refine lv_bipush (v := 12) hx hb dL_fits_744 (by decide) ?_
                refine xpV (rest := []) ⟨hx, hb, hml, hown, hts⟩ (x_count l G cI cQ d o hE 12) (cwV 1 hts gL_fits_X4_count rfl rfl rfl cd_X4_count ⟨Nat.le_of_ble_eq_true rfl, Nat.le_of_ble_eq_true rfl⟩) hK (P_tl (P_tl hP)) rfl hl.1 rfl (Nat.le_of_ble_eq_true rfl) dL_fits_746 ⟨Nat.le_of_ble_eq_true rfl, Nat.le_of_ble_eq_true rfl⟩ ?_
                refine lv_cvt (y := (kmo (eC o))) (rfl) ?_
                refine lv_iload hx hb dL_fits_749 (lv_at hl 8 rfl) ?_
                refine lv_icmp_ne (tgt := 767) hx hb dL_fits_751 (by decide) (fun c => False.elim (c w.1.2.2.2.2.2.2.2)) (fun _ => ?_)
                refine lv_aload_n hx hb dL_fits_754 rfl (lv_at hl 14 rfl) ?_
                refine lv_bipush (v := 10) hx hb dL_fits_755 (by decide) ?_
                refine xpV (rest := []) ⟨hx, hb, hml, hown, hts⟩ (x_count l G cI cQ d o hE 10) (cwV 1 hts gL_fits_X4_count rfl rfl rfl cd_X4_count ⟨Nat.le_of_ble_eq_true rfl, Nat.le_of_ble_eq_true rfl⟩) hK (P_tl (P_tl hP)) rfl hl.1 rfl (Nat.le_of_ble_eq_true rfl) dL_fits_757 ⟨Nat.le_of_ble_eq_true rfl, Nat.le_of_ble_eq_true rfl⟩ ?_
                refine lv_cvt (y := (kbu (eC o))) (rfl) ?_
                refine lv_if_lt (tgt := 767) hx hb dL_fits_760 (by decide) (fun c => False.elim (by rw [w.2.1] at c; have := w.2.2; exact nI_pos (by omega) c)) (fun _ => ?_)
                refine lv_iconst (v := 1) hx hb dL_fits_763 (by decide) ?_
                refine lv_goto (tgt := 768) hx hb dL_fits_764 (by decide) ?_
                exact m_ret (ty := .boolean) o hx hb hr hlocks rfl ⟨rfl, ⟨hE, rfl⟩⟩ (P_tl (P_tl hP)) (D_tl (D_tl hD)) hS dL_fits_768
            · skip
              refine lv_iload hx hb dL_fits_605 (lv_at hl 0 rfl) ?_
              refine lv_goto (tgt := 612) hx hb dL_fits_607 (by decide) ?_
              refine lv_cvt (y := (nI (bdN (eC o)))) (congrArg nI (show avN (eC o) = bdN (eC o) from (Nat.max_eq_left (Nat.le_of_lt (Nat.lt_of_not_le (fun q => c602 ((nI_leI (b := bgN (eC o)) (by omega) (by omega)).mpr q))))).symm)) ?_
              refine lv_istore (lv' := [(14, .int (nI (bdN (eC o)))), (13, .int (nI (avN (eC o)))), (12, .int (nI (lsN (eC o) (knv (eC o))))), (11, .int (nI (mxN (loadN (eC o)) (knv (eC o))))), (10, .int (nI (su (oN (eC o)) (knv (eC o))))), (9, .int 1), (8, .ref ma), (7, .ref la), (6, .int (mvF (eC o) (knj (eC o)))), (5, .int (nI (mxN (azN (eC o)) (knj (eC o))))), (4, .int (nI (su (mnN (eC o) 9) (knj (eC o))))), (3, .int (nI (su (azN (eC o)) (knj (eC o))))), (2, .int (nI (knj (eC o)))), (1, .int (nI (knv (eC o)))), (0, .ref (adE d))]) hx hb dL_fits_612 hl (by decide) rfl (fun ls hl => ?_)
              refine lv_iload hx hb dL_fits_614 (lv_at hl 5 rfl) ?_
              refine lv_if_eq (tgt := 767) hx hb dL_fits_616 (by decide) (fun c => absurd c (by decide)) (fun _ => ?_)
              refine lv_aload_n hx hb dL_fits_619 rfl (lv_at hl 14 rfl) ?_
              refine lv_iconst (v := 1) hx hb dL_fits_620 (by decide) ?_
              refine xpV (rest := []) ⟨hx, hb, hml, hown, hts⟩ (x_count l G cI cQ d o hE 1) (cwV 1 hts gL_fits_X4_count rfl rfl rfl cd_X4_count ⟨Nat.le_of_ble_eq_true rfl, Nat.le_of_ble_eq_true rfl⟩) hK (P_tl (P_tl hP)) rfl hl.1 rfl (Nat.le_of_ble_eq_true rfl) dL_fits_621 ⟨Nat.le_of_ble_eq_true rfl, Nat.le_of_ble_eq_true rfl⟩ ?_
              refine lv_cvt (y := (nI (opN (eC o)))) (vc1 w.1) ?_
              refine lv_iload hx hb dL_fits_624 (lv_at hl 4 rfl) ?_
              refine lv_icmp_ne (tgt := 767) hx hb dL_fits_626 (by decide) (fun c => False.elim (c rfl)) (fun _ => ?_)
              refine lv_iload_n hx hb dL_fits_629 rfl (lv_at hl 13 rfl) ?_
              refine lv_if_eq (tgt := 638) hx hb dL_fits_630 (by decide) (fun c => False.elim (n0 ((nI_eq (b := 0) (by omega) (by decide)).mp c))) (fun _ => ?_)
              refine lv_iload hx hb dL_fits_633 (lv_at hl 4 rfl) ?_
              refine lv_if_le (tgt := 767) hx hb dL_fits_635 (by decide) (fun c => False.elim (nI_nle (n := opN (eC o)) op0 (by omega) c)) (fun _ => ?_)
              refine lv_aload_n hx hb dL_fits_638 rfl (lv_at hl 14 rfl) ?_
              refine lv_iconst (v := 3) hx hb dL_fits_639 (by decide) ?_
              refine xpV (rest := []) ⟨hx, hb, hml, hown, hts⟩ (x_count l G cI cQ d o hE 3) (cwV 1 hts gL_fits_X4_count rfl rfl rfl cd_X4_count ⟨Nat.le_of_ble_eq_true rfl, Nat.le_of_ble_eq_true rfl⟩) hK (P_tl (P_tl hP)) rfl hl.1 rfl (Nat.le_of_ble_eq_true rfl) dL_fits_640 ⟨Nat.le_of_ble_eq_true rfl, Nat.le_of_ble_eq_true rfl⟩ ?_
              refine lv_cvt (y := (nI (su (mnN (eC o) 9) (knj (eC o))))) (vc3 w.1) ?_
              refine lv_iload hx hb dL_fits_643 (lv_at hl 10 rfl) ?_
              refine lv_icmp_ne (tgt := 767) hx hb dL_fits_645 (by decide) (fun c => False.elim (c rfl)) (fun _ => ?_)
              refine lv_aload_n hx hb dL_fits_648 rfl (lv_at hl 14 rfl) ?_
              refine lv_iconst (v := 4) hx hb dL_fits_649 (by decide) ?_
              refine xpV (rest := []) ⟨hx, hb, hml, hown, hts⟩ (x_count l G cI cQ d o hE 4) (cwV 1 hts gL_fits_X4_count rfl rfl rfl cd_X4_count ⟨Nat.le_of_ble_eq_true rfl, Nat.le_of_ble_eq_true rfl⟩) hK (P_tl (P_tl hP)) rfl hl.1 rfl (Nat.le_of_ble_eq_true rfl) dL_fits_650 ⟨Nat.le_of_ble_eq_true rfl, Nat.le_of_ble_eq_true rfl⟩ ?_
              refine lv_cvt (y := (nI (allN (eC o)))) (vc4 w.1) ?_
              refine lv_iload_n hx hb dL_fits_653 rfl (lv_at hl 11 rfl) ?_
              refine lv_icmp_ne (tgt := 767) hx hb dL_fits_654 (by decide) (fun c => False.elim (c rfl)) (fun _ => ?_)
              refine lv_aload_n hx hb dL_fits_657 rfl (lv_at hl 14 rfl) ?_
              refine lv_iconst (v := 5) hx hb dL_fits_658 (by decide) ?_
              refine xpV (rest := []) ⟨hx, hb, hml, hown, hts⟩ (x_count l G cI cQ d o hE 5) (cwV 1 hts gL_fits_X4_count rfl rfl rfl cd_X4_count ⟨Nat.le_of_ble_eq_true rfl, Nat.le_of_ble_eq_true rfl⟩) hK (P_tl (P_tl hP)) rfl hl.1 rfl (Nat.le_of_ble_eq_true rfl) dL_fits_659 ⟨Nat.le_of_ble_eq_true rfl, Nat.le_of_ble_eq_true rfl⟩ ?_
              refine lv_cvt (y := (nI (gtN (eC o)))) (vc5 w.1) ?_
              refine lv_iload hx hb dL_fits_662 (lv_at hl 3 rfl) ?_
              refine lv_icmp_ne (tgt := 767) hx hb dL_fits_664 (by decide) (fun c => False.elim (c rfl)) (fun _ => ?_)
              refine lv_aload_n hx hb dL_fits_667 rfl (lv_at hl 14 rfl) ?_
              refine lv_bipush (v := 6) hx hb dL_fits_668 (by decide) ?_
              refine xpV (rest := []) ⟨hx, hb, hml, hown, hts⟩ (x_count l G cI cQ d o hE 6) (cwV 1 hts gL_fits_X4_count rfl rfl rfl cd_X4_count ⟨Nat.le_of_ble_eq_true rfl, Nat.le_of_ble_eq_true rfl⟩) hK (P_tl (P_tl hP)) rfl hl.1 rfl (Nat.le_of_ble_eq_true rfl) dL_fits_670 ⟨Nat.le_of_ble_eq_true rfl, Nat.le_of_ble_eq_true rfl⟩ ?_
              refine lv_cvt (y := (nI (lsN (eC o) (knv (eC o))))) (vc6 w.1 (Nat.pos_of_ne_zero n0)) ?_
              refine lv_iload_n hx hb dL_fits_673 rfl (lv_at hl 13 rfl) ?_
              refine lv_if_ne (tgt := 681) hx hb dL_fits_674 (by decide) (fun _ => ?_) (fun c => False.elim (n0 ((nI_eq (b := 0) (by omega) (by decide)).mp c)))
              refine lv_iload hx hb dL_fits_681 (lv_at hl 2 rfl) ?_
              refine lv_icmp_ne (tgt := 767) hx hb dL_fits_683 (by decide) (fun c => False.elim (c rfl)) (fun _ => ?_)
              refine lv_aload_n hx hb dL_fits_686 rfl (lv_at hl 14 rfl) ?_
              refine lv_bipush (v := 7) hx hb dL_fits_687 (by decide) ?_
              refine xpV (rest := []) ⟨hx, hb, hml, hown, hts⟩ (x_count l G cI cQ d o hE 7) (cwV 1 hts gL_fits_X4_count rfl rfl rfl cd_X4_count ⟨Nat.le_of_ble_eq_true rfl, Nat.le_of_ble_eq_true rfl⟩) hK (P_tl (P_tl hP)) rfl hl.1 rfl (Nat.le_of_ble_eq_true rfl) dL_fits_689 ⟨Nat.le_of_ble_eq_true rfl, Nat.le_of_ble_eq_true rfl⟩ ?_
              refine lv_cvt (y := (nI (bdN (eC o)))) (vc7 w.1) ?_
              refine lv_iload hx hb dL_fits_692 (lv_at hl 0 rfl) ?_
              refine lv_icmp_ne (tgt := 767) hx hb dL_fits_694 (by decide) (fun c => False.elim (c rfl)) (fun _ => ?_)
              refine lv_aload_n hx hb dL_fits_697 rfl (lv_at hl 14 rfl) ?_
              refine lv_bipush (v := 8) hx hb dL_fits_698 (by decide) ?_
              refine xpV (rest := []) ⟨hx, hb, hml, hown, hts⟩ (x_count l G cI cQ d o hE 8) (cwV 1 hts gL_fits_X4_count rfl rfl rfl cd_X4_count ⟨Nat.le_of_ble_eq_true rfl, Nat.le_of_ble_eq_true rfl⟩) hK (P_tl (P_tl hP)) rfl hl.1 rfl (Nat.le_of_ble_eq_true rfl) dL_fits_700 ⟨Nat.le_of_ble_eq_true rfl, Nat.le_of_ble_eq_true rfl⟩ ?_
              refine lv_cvt (y := (nI (tgN (eC o)))) (vc8 w.1) ?_
              refine lv_iload hx hb dL_fits_703 (lv_at hl 0 rfl) ?_
              refine lv_aload_n hx hb dL_fits_705 rfl (lv_at hl 14 rfl) ?_
              refine lv_bipush (v := 11) hx hb dL_fits_706 (by decide) ?_
              refine xpV (rest := [.int (nI (bdN (eC o))), .int (nI (tgN (eC o)))]) ⟨hx, hb, hml, hown, hts⟩ (x_count l G cI cQ d o hE 11) (cwV 1 hts gL_fits_X4_count rfl rfl rfl cd_X4_count ⟨Nat.le_of_ble_eq_true rfl, Nat.le_of_ble_eq_true rfl⟩) hK (P_tl (P_tl hP)) rfl hl.1 rfl (Nat.le_of_ble_eq_true rfl) dL_fits_708 ⟨Nat.le_of_ble_eq_true rfl, Nat.le_of_ble_eq_true rfl⟩ ?_
              refine lv_cvt (y := (nI (faN (eC o)))) (w.1.2.2.2.2.2.2.1.1) ?_
              refine lv_imul hx hb dL_fits_711 ?_
              refine lv_cvt (y := (nI (bdN (eC o) * faN (eC o)))) (pk_mul _ _) ?_
              refine lv_bipush (v := 100) hx hb dL_fits_712 (by decide) ?_
              refine lv_idiv hx hb dL_fits_714 (by decide) ?_
              refine lv_cvt (y := (nI (tgN (eC o)))) (pk_div (d := 100) (by have : bdN (eC o) * faN (eC o) ≤ 24000 * 400 := Nat.mul_le_mul bdB w.1.2.2.2.2.2.2.1.2.2; omega) (by decide) (by decide)) ?_
              refine lv_icmp_ne (tgt := 767) hx hb dL_fits_715 (by decide) (fun c => False.elim (c rfl)) (fun _ => ?_)
              refine lv_aload_n hx hb dL_fits_718 rfl (lv_at hl 14 rfl) ?_
              refine lv_bipush (v := 9) hx hb dL_fits_719 (by decide) ?_
              refine xpV (rest := []) ⟨hx, hb, hml, hown, hts⟩ (x_count l G cI cQ d o hE 9) (cwV 1 hts gL_fits_X4_count rfl rfl rfl cd_X4_count ⟨Nat.le_of_ble_eq_true rfl, Nat.le_of_ble_eq_true rfl⟩) hK (P_tl (P_tl hP)) rfl hl.1 rfl (Nat.le_of_ble_eq_true rfl) dL_fits_721 ⟨Nat.le_of_ble_eq_true rfl, Nat.le_of_ble_eq_true rfl⟩ ?_
              by_cases ge : gtN (eC o) ≤ tgN (eC o)
              · skip
                refine lv_cvt (y := 1) (vc9t w.1 ge) ?_
                refine lv_iload hx hb dL_fits_724 (lv_at hl 3 rfl) ?_
                refine lv_aload_n hx hb dL_fits_726 rfl (lv_at hl 14 rfl) ?_
                refine lv_bipush (v := 8) hx hb dL_fits_727 (by decide) ?_
                refine xpV (rest := [.int (nI (mxN (loadN (eC o)) (knv (eC o)))), .int 1]) ⟨hx, hb, hml, hown, hts⟩ (x_count l G cI cQ d o hE 8) (cwV 1 hts gL_fits_X4_count rfl rfl rfl cd_X4_count ⟨Nat.le_of_ble_eq_true rfl, Nat.le_of_ble_eq_true rfl⟩) hK (P_tl (P_tl hP)) rfl hl.1 rfl (Nat.le_of_ble_eq_true rfl) dL_fits_729 ⟨Nat.le_of_ble_eq_true rfl, Nat.le_of_ble_eq_true rfl⟩ ?_
                refine lv_cvt (y := (nI (tgN (eC o)))) (vc8 w.1) ?_
                refine lv_icmp_gt (tgt := 739) hx hb dL_fits_732 (by decide) (fun c => False.elim (absurd ((nI_ltI (b := gtN (eC o)) (by omega) (by omega)).mp c) (by omega))) (fun _ => ?_)
                refine lv_iconst (v := 1) hx hb dL_fits_735 (by decide) ?_
                refine lv_goto (tgt := 740) hx hb dL_fits_736 (by decide) ?_
                refine lv_icmp_ne (tgt := 767) hx hb dL_fits_740 (by decide) (fun c => absurd c (by decide)) (fun _ => ?_)
                refine lv_aload_n hx hb dL_fits_743 rfl (lv_at hl 14 rfl) ?_
                refine lv_bipush (v := 12) hx hb dL_fits_744 (by decide) ?_
                refine xpV (rest := []) ⟨hx, hb, hml, hown, hts⟩ (x_count l G cI cQ d o hE 12) (cwV 1 hts gL_fits_X4_count rfl rfl rfl cd_X4_count ⟨Nat.le_of_ble_eq_true rfl, Nat.le_of_ble_eq_true rfl⟩) hK (P_tl (P_tl hP)) rfl hl.1 rfl (Nat.le_of_ble_eq_true rfl) dL_fits_746 ⟨Nat.le_of_ble_eq_true rfl, Nat.le_of_ble_eq_true rfl⟩ ?_
                refine lv_cvt (y := (kmo (eC o))) (rfl) ?_
                refine lv_iload hx hb dL_fits_749 (lv_at hl 8 rfl) ?_
                refine lv_icmp_ne (tgt := 767) hx hb dL_fits_751 (by decide) (fun c => False.elim (c w.1.2.2.2.2.2.2.2)) (fun _ => ?_)
                refine lv_aload_n hx hb dL_fits_754 rfl (lv_at hl 14 rfl) ?_
                refine lv_bipush (v := 10) hx hb dL_fits_755 (by decide) ?_
                refine xpV (rest := []) ⟨hx, hb, hml, hown, hts⟩ (x_count l G cI cQ d o hE 10) (cwV 1 hts gL_fits_X4_count rfl rfl rfl cd_X4_count ⟨Nat.le_of_ble_eq_true rfl, Nat.le_of_ble_eq_true rfl⟩) hK (P_tl (P_tl hP)) rfl hl.1 rfl (Nat.le_of_ble_eq_true rfl) dL_fits_757 ⟨Nat.le_of_ble_eq_true rfl, Nat.le_of_ble_eq_true rfl⟩ ?_
                refine lv_cvt (y := (kbu (eC o))) (rfl) ?_
                refine lv_if_lt (tgt := 767) hx hb dL_fits_760 (by decide) (fun c => False.elim (by rw [w.2.1] at c; have := w.2.2; exact nI_pos (by omega) c)) (fun _ => ?_)
                refine lv_iconst (v := 1) hx hb dL_fits_763 (by decide) ?_
                refine lv_goto (tgt := 768) hx hb dL_fits_764 (by decide) ?_
                exact m_ret (ty := .boolean) o hx hb hr hlocks rfl ⟨rfl, ⟨hE, rfl⟩⟩ (P_tl (P_tl hP)) (D_tl (D_tl hD)) hS dL_fits_768
              · skip
                refine lv_cvt (y := 0) (vc9f w.1 ge) ?_
                refine lv_iload hx hb dL_fits_724 (lv_at hl 3 rfl) ?_
                refine lv_aload_n hx hb dL_fits_726 rfl (lv_at hl 14 rfl) ?_
                refine lv_bipush (v := 8) hx hb dL_fits_727 (by decide) ?_
                refine xpV (rest := [.int (nI (mxN (loadN (eC o)) (knv (eC o)))), .int 0]) ⟨hx, hb, hml, hown, hts⟩ (x_count l G cI cQ d o hE 8) (cwV 1 hts gL_fits_X4_count rfl rfl rfl cd_X4_count ⟨Nat.le_of_ble_eq_true rfl, Nat.le_of_ble_eq_true rfl⟩) hK (P_tl (P_tl hP)) rfl hl.1 rfl (Nat.le_of_ble_eq_true rfl) dL_fits_729 ⟨Nat.le_of_ble_eq_true rfl, Nat.le_of_ble_eq_true rfl⟩ ?_
                refine lv_cvt (y := (nI (tgN (eC o)))) (vc8 w.1) ?_
                refine lv_icmp_gt (tgt := 739) hx hb dL_fits_732 (by decide) (fun _ => ?_) (fun c => False.elim (c ((nI_ltI (b := gtN (eC o)) (by omega) (by omega)).mpr (by omega))))
                refine lv_iconst (v := 0) hx hb dL_fits_739 (by decide) ?_
                refine lv_icmp_ne (tgt := 767) hx hb dL_fits_740 (by decide) (fun c => absurd c (by decide)) (fun _ => ?_)
                refine lv_aload_n hx hb dL_fits_743 rfl (lv_at hl 14 rfl) ?_
                refine lv_bipush (v := 12) hx hb dL_fits_744 (by decide) ?_
                refine xpV (rest := []) ⟨hx, hb, hml, hown, hts⟩ (x_count l G cI cQ d o hE 12) (cwV 1 hts gL_fits_X4_count rfl rfl rfl cd_X4_count ⟨Nat.le_of_ble_eq_true rfl, Nat.le_of_ble_eq_true rfl⟩) hK (P_tl (P_tl hP)) rfl hl.1 rfl (Nat.le_of_ble_eq_true rfl) dL_fits_746 ⟨Nat.le_of_ble_eq_true rfl, Nat.le_of_ble_eq_true rfl⟩ ?_
                refine lv_cvt (y := (kmo (eC o))) (rfl) ?_
                refine lv_iload hx hb dL_fits_749 (lv_at hl 8 rfl) ?_
                refine lv_icmp_ne (tgt := 767) hx hb dL_fits_751 (by decide) (fun c => False.elim (c w.1.2.2.2.2.2.2.2)) (fun _ => ?_)
                refine lv_aload_n hx hb dL_fits_754 rfl (lv_at hl 14 rfl) ?_
                refine lv_bipush (v := 10) hx hb dL_fits_755 (by decide) ?_
                refine xpV (rest := []) ⟨hx, hb, hml, hown, hts⟩ (x_count l G cI cQ d o hE 10) (cwV 1 hts gL_fits_X4_count rfl rfl rfl cd_X4_count ⟨Nat.le_of_ble_eq_true rfl, Nat.le_of_ble_eq_true rfl⟩) hK (P_tl (P_tl hP)) rfl hl.1 rfl (Nat.le_of_ble_eq_true rfl) dL_fits_757 ⟨Nat.le_of_ble_eq_true rfl, Nat.le_of_ble_eq_true rfl⟩ ?_
                refine lv_cvt (y := (kbu (eC o))) (rfl) ?_
                refine lv_if_lt (tgt := 767) hx hb dL_fits_760 (by decide) (fun c => False.elim (by rw [w.2.1] at c; have := w.2.2; exact nI_pos (by omega) c)) (fun _ => ?_)
                refine lv_iconst (v := 1) hx hb dL_fits_763 (by decide) ?_
                refine lv_goto (tgt := 768) hx hb dL_fits_764 (by decide) ?_
                exact m_ret (ty := .boolean) o hx hb hr hlocks rfl ⟨rfl, ⟨hE, rfl⟩⟩ (P_tl (P_tl hP)) (D_tl (D_tl hD)) hS dL_fits_768
        | succ n4 ih_k =>
          intro k hi_k H locs hP hD hS ls hl
          have lt_k : k < knv (eC o) := by omega
          have k6 := ci_v w.1 lt_k
          have ldB := load_le w.1 k
          have mnB := many_le (eC o) k
          refine lv_iload hx hb dL_fits_233 (lv_at hl 0 rfl) ?_
          refine lv_iload_n hx hb dL_fits_235 rfl (lv_at hl 12 rfl) ?_
          refine lv_icmp_ge (tgt := 578) hx hb dL_fits_236 (by decide) (fun c => False.elim (nI_ge lt_k (by omega) c)) (fun _ => ?_)
          refine lv_iload hx hb dL_fits_239 (lv_at hl 4 rfl) ?_
          refine lv_if_eq (tgt := 578) hx hb dL_fits_241 (by decide) (fun c => absurd c (by decide)) (fun _ => ?_)
          have K396 : ∀ (ls : Array Slot), lv_has ls 17 [(13, .int (nI k)), (12, .int (nI (lsN (eC o) (k + 1)))), (11, .int (nI (mxN (loadN (eC o)) (k + 1)))), (10, .int (nI (su (oN (eC o)) (k + 1)))), (9, .int 1), (8, .ref ma), (7, .ref la), (6, .int (mvF (eC o) (knj (eC o)))), (5, .int (nI (mxN (azN (eC o)) (knj (eC o))))), (4, .int (nI (su (mnN (eC o) 9) (knj (eC o))))), (3, .int (nI (su (azN (eC o)) (knj (eC o))))), (2, .int (nI (knj (eC o)))), (1, .int (nI (knv (eC o)))), (0, .ref (adE d))] → W p l e ({ frames := 5, cells := 2, slots := 12, locals := 143 } : Room) s m ([.ref (adE d)] : List Value).toArray below meth cd H locs 2 12 (MQ below (va_Qi (fun (r : Int32) (u : ES) => r = 1 ∧ (EI u ∧ eC u = eC o)) (mB G (A) (XW cI cQ d)) (A)) ([.ref (adE d)] : List Value).toArray s 2 12 A) (F0 m 396 ls []) := by
            intro ls hl
            refine lv_bipush (v := (-9)) hx hb dL_fits_396 (by decide) ?_
            refine lv_istore (lv' := [(14, .int (-9)), (13, .int (nI k)), (12, .int (nI (lsN (eC o) (k + 1)))), (11, .int (nI (mxN (loadN (eC o)) (k + 1)))), (10, .int (nI (su (oN (eC o)) (k + 1)))), (9, .int 1), (8, .ref ma), (7, .ref la), (6, .int (mvF (eC o) (knj (eC o)))), (5, .int (nI (mxN (azN (eC o)) (knj (eC o))))), (4, .int (nI (su (mnN (eC o) 9) (knj (eC o))))), (3, .int (nI (su (azN (eC o)) (knj (eC o))))), (2, .int (nI (knj (eC o)))), (1, .int (nI (knv (eC o)))), (0, .ref (adE d))]) hx hb dL_fits_398 hl (by decide) rfl (fun ls hl => ?_)
            refine lv_iconst (v := 0) hx hb dL_fits_400 (by decide) ?_
            refine lv_istore (lv' := [(15, .int 0), (14, .int (-9)), (13, .int (nI k)), (12, .int (nI (lsN (eC o) (k + 1)))), (11, .int (nI (mxN (loadN (eC o)) (k + 1)))), (10, .int (nI (su (oN (eC o)) (k + 1)))), (9, .int 1), (8, .ref ma), (7, .ref la), (6, .int (mvF (eC o) (knj (eC o)))), (5, .int (nI (mxN (azN (eC o)) (knj (eC o))))), (4, .int (nI (su (mnN (eC o) 9) (knj (eC o))))), (3, .int (nI (su (azN (eC o)) (knj (eC o))))), (2, .int (nI (knj (eC o)))), (1, .int (nI (knv (eC o)))), (0, .ref (adE d))]) hx hb dL_fits_401 hl (by decide) rfl (fun ls hl => ?_)
            have K5 : ∀ (n6 i : Nat), i + n6 = manyN (eC o) k → ∀ (lst : Int32) (H : Heap) (locs : List Loc),((i = 0 ∧ lst = -9) ∨ ∃ jp, jp < knj (eC o) ∧ lst = nI jp ∧ pN (eC o) jp = k ∧ rankN (eC o) jp + 1 = i) → va_P G vwCl ((ma, .inl (cI, 6, .inl ((fun x => nI (su (mnN (eC o) x) (knj (eC o))))))) :: (la, .inl (cI, 6, .inl ((fun x => nI (su (lzN (eC o) x) (knj (eC o))))))) :: XW cI cQ d o) H → va_D A ((ma, .inl (cI, 6, .inl ((fun x => nI (su (mnN (eC o) x) (knj (eC o))))))) :: (la, .inl (cI, 6, .inl ((fun x => nI (su (lzN (eC o) x) (knj (eC o))))))) :: XW cI cQ d o) → va_S A s.heap H locs → ∀ (ls : Array Slot), lv_has ls 17 [(15, .int (nI i)), (14, .int lst), (13, .int (nI k)), (12, .int (nI (lsN (eC o) (k + 1)))), (11, .int (nI (mxN (loadN (eC o)) (k + 1)))), (10, .int (nI (su (oN (eC o)) (k + 1)))), (9, .int 1), (8, .ref ma), (7, .ref la), (6, .int (mvF (eC o) (knj (eC o)))), (5, .int (nI (mxN (azN (eC o)) (knj (eC o))))), (4, .int (nI (su (mnN (eC o) 9) (knj (eC o))))), (3, .int (nI (su (azN (eC o)) (knj (eC o))))), (2, .int (nI (knj (eC o)))), (1, .int (nI (knv (eC o)))), (0, .ref (adE d))] → W p l e ({ frames := 5, cells := 2, slots := 12, locals := 143 } : Room) s m ([.ref (adE d)] : List Value).toArray below meth cd H locs 2 12 (MQ below (va_Qi (fun (r : Int32) (u : ES) => r = 1 ∧ (EI u ∧ eC u = eC o)) (mB G (A) (XW cI cQ d)) (A)) ([.ref (adE d)] : List Value).toArray s 2 12 A) (F0 m 403 ls []) := by
              intro n6
              induction n6 with
              | zero =>
                intro i hi_i lst H locs hla hP hD hS ls hl
                have e_i : i = manyN (eC o) k := by omega
                subst e_i
                refine lv_iload hx hb dL_fits_403 (lv_at hl 0 rfl) ?_
                refine lv_aload hx hb dL_fits_405 (lv_at hl 7 rfl) ?_
                refine lv_iload hx hb dL_fits_407 (lv_at hl 2 rfl) ?_
                refine iald_n hx hb hK hP 0 rfl k rfl k6 (by decide) dL_fits_409 ?_
                refine lv_cvt (y := (nI (manyN (eC o) k))) (rfl) ?_
                refine lv_icmp_ge (tgt := 544) hx hb dL_fits_410 (by decide) (fun _ => ?_) (fun c => False.elim (c (Int32.le_refl _)))
                refine lv_iload hx hb dL_fits_544 (lv_at hl 6 rfl) ?_
                refine lv_if_eq (tgt := 569) hx hb dL_fits_546 (by decide) (fun c => absurd c (by decide)) (fun _ => ?_)
                refine lv_aload_n hx hb dL_fits_549 rfl (lv_at hl 15 rfl) ?_
                refine lv_iload hx hb dL_fits_550 (lv_at hl 2 rfl) ?_
                refine lv_aload hx hb dL_fits_552 (lv_at hl 7 rfl) ?_
                refine lv_iload hx hb dL_fits_554 (lv_at hl 2 rfl) ?_
                refine iald_n hx hb hK hP 0 rfl k rfl k6 (by decide) dL_fits_556 ?_
                refine lv_cvt (y := (nI (manyN (eC o) k))) (rfl) ?_
                refine xpV (rest := []) ⟨hx, hb, hml, hown, hts⟩ (x_leaving l G cI cQ d o hE (nI k) (nI (manyN (eC o) k))) (cwV 2 hts gL_fits_X4_leaving rfl rfl rfl cd_X4_leaving ⟨Nat.le_of_ble_eq_true rfl, Nat.le_of_ble_eq_true rfl⟩) hK (P_tl (P_tl hP)) rfl hl.1 rfl (Nat.le_of_ble_eq_true rfl) dL_fits_557 ⟨Nat.le_of_ble_eq_true rfl, Nat.le_of_ble_eq_true rfl⟩ ?_
                refine lv_cvt (y := (-9)) ((vlv w.1 lt_k (by omega)).trans (leav_no w.1 k6 (Nat.le_refl _) (by omega))) ?_
                refine lv_bipush (v := (-9)) hx hb dL_fits_560 (by decide) ?_
                refine lv_icmp_ne (tgt := 569) hx hb dL_fits_562 (by decide) (fun c => absurd c (by decide)) (fun _ => ?_)
                refine lv_iconst (v := 1) hx hb dL_fits_565 (by decide) ?_
                refine lv_goto (tgt := 570) hx hb dL_fits_566 (by decide) ?_
                refine lv_istore (lv' := [(9, .int 1), (15, .int (nI (manyN (eC o) k))), (14, .int lst), (13, .int (nI k)), (12, .int (nI (lsN (eC o) (k + 1)))), (11, .int (nI (mxN (loadN (eC o)) (k + 1)))), (10, .int (nI (su (oN (eC o)) (k + 1)))), (8, .ref ma), (7, .ref la), (6, .int (mvF (eC o) (knj (eC o)))), (5, .int (nI (mxN (azN (eC o)) (knj (eC o))))), (4, .int (nI (su (mnN (eC o) 9) (knj (eC o))))), (3, .int (nI (su (azN (eC o)) (knj (eC o))))), (2, .int (nI (knj (eC o)))), (1, .int (nI (knv (eC o)))), (0, .ref (adE d))]) hx hb dL_fits_570 hl (by decide) rfl (fun ls hl => ?_)
                refine lv_iinc (v := (nI (k + 1))) (lv' := [(13, .int (nI (k + 1))), (9, .int 1), (15, .int (nI (manyN (eC o) k))), (14, .int lst), (12, .int (nI (lsN (eC o) (k + 1)))), (11, .int (nI (mxN (loadN (eC o)) (k + 1)))), (10, .int (nI (su (oN (eC o)) (k + 1)))), (8, .ref ma), (7, .ref la), (6, .int (mvF (eC o) (knj (eC o)))), (5, .int (nI (mxN (azN (eC o)) (knj (eC o))))), (4, .int (nI (su (mnN (eC o) 9) (knj (eC o))))), (3, .int (nI (su (azN (eC o)) (knj (eC o))))), (2, .int (nI (knj (eC o)))), (1, .int (nI (knv (eC o)))), (0, .ref (adE d))]) hx hb dL_fits_572 hl (k := 3) rfl (nI_1 k) (by decide) rfl (fun ls hl => ?_)
                refine lv_goto (tgt := 233) hx hb dL_fits_575 (by decide) ?_
                exact ih_k (k + 1) (by omega) H locs hP hD hS ls (lv_sub hl [0, 4, 5, 6, 1, 7, 8, 9, 10, 11, 12, 13, 14, 15] rfl)
              | succ n6 ih_i =>
                intro i hi_i lst H locs hla hP hD hS ls hl
                have lt_i : i < manyN (eC o) k := by omega
                refine lv_iload hx hb dL_fits_403 (lv_at hl 0 rfl) ?_
                refine lv_aload hx hb dL_fits_405 (lv_at hl 7 rfl) ?_
                refine lv_iload hx hb dL_fits_407 (lv_at hl 2 rfl) ?_
                refine iald_n hx hb hK hP 0 rfl k rfl k6 (by decide) dL_fits_409 ?_
                refine lv_cvt (y := (nI (manyN (eC o) k))) (rfl) ?_
                refine lv_icmp_ge (tgt := 544) hx hb dL_fits_410 (by decide) (fun c => False.elim (nI_ge lt_i (by omega) c)) (fun _ => ?_)
                refine lv_iload hx hb dL_fits_413 (lv_at hl 6 rfl) ?_
                refine lv_if_eq (tgt := 544) hx hb dL_fits_415 (by decide) (fun c => absurd c (by decide)) (fun _ => ?_)
                refine lv_aload_n hx hb dL_fits_418 rfl (lv_at hl 15 rfl) ?_
                refine lv_iload hx hb dL_fits_419 (lv_at hl 2 rfl) ?_
                refine lv_iload hx hb dL_fits_421 (lv_at hl 0 rfl) ?_
                refine xpV (rest := []) ⟨hx, hb, hml, hown, hts⟩ (x_leaving l G cI cQ d o hE (nI k) (nI i)) (cwV 2 hts gL_fits_X4_leaving rfl rfl rfl cd_X4_leaving ⟨Nat.le_of_ble_eq_true rfl, Nat.le_of_ble_eq_true rfl⟩) hK (P_tl (P_tl hP)) rfl hl.1 rfl (Nat.le_of_ble_eq_true rfl) dL_fits_423 ⟨Nat.le_of_ble_eq_true rfl, Nat.le_of_ble_eq_true rfl⟩ ?_
                obtain ⟨jj, hjj, ej, hpj, hrj⟩ := leav_ok w.1 k6 lt_i
                refine lv_cvt (y := (nI jj)) ((vlv w.1 lt_k (by omega)).trans ej) ?_
                refine lv_istore (lv' := [(16, .int (nI jj)), (15, .int (nI i)), (14, .int lst), (13, .int (nI k)), (12, .int (nI (lsN (eC o) (k + 1)))), (11, .int (nI (mxN (loadN (eC o)) (k + 1)))), (10, .int (nI (su (oN (eC o)) (k + 1)))), (9, .int 1), (8, .ref ma), (7, .ref la), (6, .int (mvF (eC o) (knj (eC o)))), (5, .int (nI (mxN (azN (eC o)) (knj (eC o))))), (4, .int (nI (su (mnN (eC o) 9) (knj (eC o))))), (3, .int (nI (su (azN (eC o)) (knj (eC o))))), (2, .int (nI (knj (eC o)))), (1, .int (nI (knv (eC o)))), (0, .ref (adE d))]) hx hb dL_fits_426 hl (by decide) rfl (fun ls hl => ?_)
                refine lv_iload hx hb dL_fits_428 (lv_at hl 0 rfl) ?_
                refine lv_if_lt (tgt := 531) hx hb dL_fits_430 (by decide) (fun c => False.elim (nI_pos (by omega) c)) (fun _ => ?_)
                refine lv_aload_n hx hb dL_fits_433 rfl (lv_at hl 16 rfl) ?_
                refine lv_iload hx hb dL_fits_434 (lv_at hl 0 rfl) ?_
                refine lv_iconst (v := 2) hx hb dL_fits_436 (by decide) ?_
                refine xpV (rest := []) ⟨hx, hb, hml, hown, hts⟩ (x_job l G cI cQ d o hE (nI jj) 2) (cwV 2 hts gL_fits_X4_job rfl rfl rfl cd_X4_job ⟨Nat.le_of_ble_eq_true rfl, Nat.le_of_ble_eq_true rfl⟩) hK (P_tl (P_tl hP)) rfl hl.1 rfl (Nat.le_of_ble_eq_true rfl) dL_fits_437 ⟨Nat.le_of_ble_eq_true rfl, Nat.le_of_ble_eq_true rfl⟩ ?_
                refine lv_cvt (y := (nI k)) ((vj2 w.1 hjj).trans ((cpk w.1 hjj k6).mpr hpj)) ?_
                refine lv_iload hx hb dL_fits_440 (lv_at hl 3 rfl) ?_
                refine lv_icmp_ne (tgt := 531) hx hb dL_fits_442 (by decide) (fun c => False.elim (c rfl)) (fun _ => ?_)
                rcases hla with ⟨h0, e0⟩ | ⟨jp, hjp, ejp, hpp, hrp⟩
                · skip
                  refine lv_iload hx hb dL_fits_445 (lv_at hl 2 rfl) ?_
                  refine lv_bipush (v := (-9)) hx hb dL_fits_447 (by decide) ?_
                  refine lv_icmp_eq (tgt := 527) hx hb dL_fits_449 (by decide) (fun _ => ?_) (fun c => False.elim (c e0))
                  refine lv_iconst (v := 1) hx hb dL_fits_527 (by decide) ?_
                  refine lv_goto (tgt := 532) hx hb dL_fits_528 (by decide) ?_
                  refine lv_istore (lv' := [(9, .int 1), (16, .int (nI jj)), (15, .int (nI i)), (14, .int lst), (13, .int (nI k)), (12, .int (nI (lsN (eC o) (k + 1)))), (11, .int (nI (mxN (loadN (eC o)) (k + 1)))), (10, .int (nI (su (oN (eC o)) (k + 1)))), (8, .ref ma), (7, .ref la), (6, .int (mvF (eC o) (knj (eC o)))), (5, .int (nI (mxN (azN (eC o)) (knj (eC o))))), (4, .int (nI (su (mnN (eC o) 9) (knj (eC o))))), (3, .int (nI (su (azN (eC o)) (knj (eC o))))), (2, .int (nI (knj (eC o)))), (1, .int (nI (knv (eC o)))), (0, .ref (adE d))]) hx hb dL_fits_532 hl (by decide) rfl (fun ls hl => ?_)
                  refine lv_iload hx hb dL_fits_534 (lv_at hl 1 rfl) ?_
                  refine lv_istore (lv' := [(14, .int (nI jj)), (9, .int 1), (16, .int (nI jj)), (15, .int (nI i)), (13, .int (nI k)), (12, .int (nI (lsN (eC o) (k + 1)))), (11, .int (nI (mxN (loadN (eC o)) (k + 1)))), (10, .int (nI (su (oN (eC o)) (k + 1)))), (8, .ref ma), (7, .ref la), (6, .int (mvF (eC o) (knj (eC o)))), (5, .int (nI (mxN (azN (eC o)) (knj (eC o))))), (4, .int (nI (su (mnN (eC o) 9) (knj (eC o))))), (3, .int (nI (su (azN (eC o)) (knj (eC o))))), (2, .int (nI (knj (eC o)))), (1, .int (nI (knv (eC o)))), (0, .ref (adE d))]) hx hb dL_fits_536 hl (by decide) rfl (fun ls hl => ?_)
                  refine lv_iinc (v := (nI (i + 1))) (lv' := [(15, .int (nI (i + 1))), (14, .int (nI jj)), (9, .int 1), (16, .int (nI jj)), (13, .int (nI k)), (12, .int (nI (lsN (eC o) (k + 1)))), (11, .int (nI (mxN (loadN (eC o)) (k + 1)))), (10, .int (nI (su (oN (eC o)) (k + 1)))), (8, .ref ma), (7, .ref la), (6, .int (mvF (eC o) (knj (eC o)))), (5, .int (nI (mxN (azN (eC o)) (knj (eC o))))), (4, .int (nI (su (mnN (eC o) 9) (knj (eC o))))), (3, .int (nI (su (azN (eC o)) (knj (eC o))))), (2, .int (nI (knj (eC o)))), (1, .int (nI (knv (eC o)))), (0, .ref (adE d))]) hx hb dL_fits_538 hl (k := 3) rfl (nI_1 i) (by decide) rfl (fun ls hl => ?_)
                  refine lv_goto (tgt := 403) hx hb dL_fits_541 (by decide) ?_
                  exact ih_i (i + 1) (by omega) (nI jj) H locs (Or.inr ⟨jj, hjj, rfl, hpj, by omega⟩) hP hD hS ls (lv_sub hl [0, 1, 4, 5, 6, 7, 2, 8, 9, 10, 11, 12, 13, 14, 15, 16] rfl)
                · skip
                  subst ejp
                  have hb9 : bfN (eC o) jp jj := rank_bf hjj (hpp.trans hpj.symm) (by omega)
                  have z1 := ci_z2 w.1 hjj
                  have z2 := ci_z2 w.1 hjp
                  have q1 := ci_q w.1 hjj
                  have q2 := ci_q w.1 hjp
                  refine lv_iload hx hb dL_fits_445 (lv_at hl 2 rfl) ?_
                  refine lv_bipush (v := (-9)) hx hb dL_fits_447 (by decide) ?_
                  refine lv_icmp_eq (tgt := 527) hx hb dL_fits_449 (by decide) (fun c => False.elim (ne9 (by omega) c)) (fun _ => ?_)
                  refine lv_aload_n hx hb dL_fits_452 rfl (lv_at hl 16 rfl) ?_
                  refine lv_iload hx hb dL_fits_453 (lv_at hl 0 rfl) ?_
                  refine lv_iconst (v := 0) hx hb dL_fits_455 (by decide) ?_
                  refine xpV (rest := []) ⟨hx, hb, hml, hown, hts⟩ (x_job l G cI cQ d o hE (nI jj) 0) (cwV 2 hts gL_fits_X4_job rfl rfl rfl cd_X4_job ⟨Nat.le_of_ble_eq_true rfl, Nat.le_of_ble_eq_true rfl⟩) hK (P_tl (P_tl hP)) rfl hl.1 rfl (Nat.le_of_ble_eq_true rfl) dL_fits_456 ⟨Nat.le_of_ble_eq_true rfl, Nat.le_of_ble_eq_true rfl⟩ ?_
                  refine lv_cvt (y := (nI (zN (eC o) jj))) (vj0 w.1 hjj) ?_
                  refine lv_aload_n hx hb dL_fits_459 rfl (lv_at hl 16 rfl) ?_
                  refine lv_iload hx hb dL_fits_460 (lv_at hl 2 rfl) ?_
                  refine lv_iconst (v := 0) hx hb dL_fits_462 (by decide) ?_
                  refine xpV (rest := [.int (nI (zN (eC o) jj))]) ⟨hx, hb, hml, hown, hts⟩ (x_job l G cI cQ d o hE (nI jp) 0) (cwV 2 hts gL_fits_X4_job rfl rfl rfl cd_X4_job ⟨Nat.le_of_ble_eq_true rfl, Nat.le_of_ble_eq_true rfl⟩) hK (P_tl (P_tl hP)) rfl hl.1 rfl (Nat.le_of_ble_eq_true rfl) dL_fits_463 ⟨Nat.le_of_ble_eq_true rfl, Nat.le_of_ble_eq_true rfl⟩ ?_
                  refine lv_cvt (y := (nI (zN (eC o) jp))) (vj0 w.1 hjp) ?_
                  refine lv_icmp_lt (tgt := 527) hx hb dL_fits_466 (by decide) (fun c466 => ?_) (fun c466 => ?_)
                  · skip
                    refine lv_iconst (v := 1) hx hb dL_fits_527 (by decide) ?_
                    refine lv_goto (tgt := 532) hx hb dL_fits_528 (by decide) ?_
                    refine lv_istore (lv' := [(9, .int 1), (16, .int (nI jj)), (15, .int (nI i)), (14, .int (nI jp)), (13, .int (nI k)), (12, .int (nI (lsN (eC o) (k + 1)))), (11, .int (nI (mxN (loadN (eC o)) (k + 1)))), (10, .int (nI (su (oN (eC o)) (k + 1)))), (8, .ref ma), (7, .ref la), (6, .int (mvF (eC o) (knj (eC o)))), (5, .int (nI (mxN (azN (eC o)) (knj (eC o))))), (4, .int (nI (su (mnN (eC o) 9) (knj (eC o))))), (3, .int (nI (su (azN (eC o)) (knj (eC o))))), (2, .int (nI (knj (eC o)))), (1, .int (nI (knv (eC o)))), (0, .ref (adE d))]) hx hb dL_fits_532 hl (by decide) rfl (fun ls hl => ?_)
                    refine lv_iload hx hb dL_fits_534 (lv_at hl 1 rfl) ?_
                    refine lv_istore (lv' := [(14, .int (nI jj)), (9, .int 1), (16, .int (nI jj)), (15, .int (nI i)), (13, .int (nI k)), (12, .int (nI (lsN (eC o) (k + 1)))), (11, .int (nI (mxN (loadN (eC o)) (k + 1)))), (10, .int (nI (su (oN (eC o)) (k + 1)))), (8, .ref ma), (7, .ref la), (6, .int (mvF (eC o) (knj (eC o)))), (5, .int (nI (mxN (azN (eC o)) (knj (eC o))))), (4, .int (nI (su (mnN (eC o) 9) (knj (eC o))))), (3, .int (nI (su (azN (eC o)) (knj (eC o))))), (2, .int (nI (knj (eC o)))), (1, .int (nI (knv (eC o)))), (0, .ref (adE d))]) hx hb dL_fits_536 hl (by decide) rfl (fun ls hl => ?_)
                    refine lv_iinc (v := (nI (i + 1))) (lv' := [(15, .int (nI (i + 1))), (14, .int (nI jj)), (9, .int 1), (16, .int (nI jj)), (13, .int (nI k)), (12, .int (nI (lsN (eC o) (k + 1)))), (11, .int (nI (mxN (loadN (eC o)) (k + 1)))), (10, .int (nI (su (oN (eC o)) (k + 1)))), (8, .ref ma), (7, .ref la), (6, .int (mvF (eC o) (knj (eC o)))), (5, .int (nI (mxN (azN (eC o)) (knj (eC o))))), (4, .int (nI (su (mnN (eC o) 9) (knj (eC o))))), (3, .int (nI (su (azN (eC o)) (knj (eC o))))), (2, .int (nI (knj (eC o)))), (1, .int (nI (knv (eC o)))), (0, .ref (adE d))]) hx hb dL_fits_538 hl (k := 3) rfl (nI_1 i) (by decide) rfl (fun ls hl => ?_)
                    refine lv_goto (tgt := 403) hx hb dL_fits_541 (by decide) ?_
                    exact ih_i (i + 1) (by omega) (nI jj) H locs (Or.inr ⟨jj, hjj, rfl, hpj, by omega⟩) hP hD hS ls (lv_sub hl [0, 1, 4, 5, 6, 7, 2, 8, 9, 10, 11, 12, 13, 14, 15, 16] rfl)
                  · skip
                    have d466 : ¬ zN (eC o) jj < zN (eC o) jp := fun q => c466 ((nI_ltI (by omega) (by omega)).mpr q)
                    refine lv_aload_n hx hb dL_fits_469 rfl (lv_at hl 16 rfl) ?_
                    refine lv_iload hx hb dL_fits_470 (lv_at hl 0 rfl) ?_
                    refine lv_iconst (v := 0) hx hb dL_fits_472 (by decide) ?_
                    refine xpV (rest := []) ⟨hx, hb, hml, hown, hts⟩ (x_job l G cI cQ d o hE (nI jj) 0) (cwV 2 hts gL_fits_X4_job rfl rfl rfl cd_X4_job ⟨Nat.le_of_ble_eq_true rfl, Nat.le_of_ble_eq_true rfl⟩) hK (P_tl (P_tl hP)) rfl hl.1 rfl (Nat.le_of_ble_eq_true rfl) dL_fits_473 ⟨Nat.le_of_ble_eq_true rfl, Nat.le_of_ble_eq_true rfl⟩ ?_
                    refine lv_cvt (y := (nI (zN (eC o) jj))) (vj0 w.1 hjj) ?_
                    refine lv_aload_n hx hb dL_fits_476 rfl (lv_at hl 16 rfl) ?_
                    refine lv_iload hx hb dL_fits_477 (lv_at hl 2 rfl) ?_
                    refine lv_iconst (v := 0) hx hb dL_fits_479 (by decide) ?_
                    refine xpV (rest := [.int (nI (zN (eC o) jj))]) ⟨hx, hb, hml, hown, hts⟩ (x_job l G cI cQ d o hE (nI jp) 0) (cwV 2 hts gL_fits_X4_job rfl rfl rfl cd_X4_job ⟨Nat.le_of_ble_eq_true rfl, Nat.le_of_ble_eq_true rfl⟩) hK (P_tl (P_tl hP)) rfl hl.1 rfl (Nat.le_of_ble_eq_true rfl) dL_fits_480 ⟨Nat.le_of_ble_eq_true rfl, Nat.le_of_ble_eq_true rfl⟩ ?_
                    refine lv_cvt (y := (nI (zN (eC o) jp))) (vj0 w.1 hjp) ?_
                    refine lv_icmp_ne (tgt := 531) hx hb dL_fits_483 (by decide) (fun c => False.elim (c (congrArg nI (by omega)))) (fun _ => ?_)
                    refine lv_aload_n hx hb dL_fits_486 rfl (lv_at hl 16 rfl) ?_
                    refine lv_iload hx hb dL_fits_487 (lv_at hl 0 rfl) ?_
                    refine lv_iconst (v := 1) hx hb dL_fits_489 (by decide) ?_
                    refine xpV (rest := []) ⟨hx, hb, hml, hown, hts⟩ (x_job l G cI cQ d o hE (nI jj) 1) (cwV 2 hts gL_fits_X4_job rfl rfl rfl cd_X4_job ⟨Nat.le_of_ble_eq_true rfl, Nat.le_of_ble_eq_true rfl⟩) hK (P_tl (P_tl hP)) rfl hl.1 rfl (Nat.le_of_ble_eq_true rfl) dL_fits_490 ⟨Nat.le_of_ble_eq_true rfl, Nat.le_of_ble_eq_true rfl⟩ ?_
                    refine lv_cvt (y := (nI (qN (eC o) jj))) (vj1 w.1 hjj) ?_
                    refine lv_aload_n hx hb dL_fits_493 rfl (lv_at hl 16 rfl) ?_
                    refine lv_iload hx hb dL_fits_494 (lv_at hl 2 rfl) ?_
                    refine lv_iconst (v := 1) hx hb dL_fits_496 (by decide) ?_
                    refine xpV (rest := [.int (nI (qN (eC o) jj))]) ⟨hx, hb, hml, hown, hts⟩ (x_job l G cI cQ d o hE (nI jp) 1) (cwV 2 hts gL_fits_X4_job rfl rfl rfl cd_X4_job ⟨Nat.le_of_ble_eq_true rfl, Nat.le_of_ble_eq_true rfl⟩) hK (P_tl (P_tl hP)) rfl hl.1 rfl (Nat.le_of_ble_eq_true rfl) dL_fits_497 ⟨Nat.le_of_ble_eq_true rfl, Nat.le_of_ble_eq_true rfl⟩ ?_
                    refine lv_cvt (y := (nI (qN (eC o) jp))) (vj1 w.1 hjp) ?_
                    refine lv_icmp_gt (tgt := 527) hx hb dL_fits_500 (by decide) (fun c500 => ?_) (fun c500 => ?_)
                    · skip
                      refine lv_iconst (v := 1) hx hb dL_fits_527 (by decide) ?_
                      refine lv_goto (tgt := 532) hx hb dL_fits_528 (by decide) ?_
                      refine lv_istore (lv' := [(9, .int 1), (16, .int (nI jj)), (15, .int (nI i)), (14, .int (nI jp)), (13, .int (nI k)), (12, .int (nI (lsN (eC o) (k + 1)))), (11, .int (nI (mxN (loadN (eC o)) (k + 1)))), (10, .int (nI (su (oN (eC o)) (k + 1)))), (8, .ref ma), (7, .ref la), (6, .int (mvF (eC o) (knj (eC o)))), (5, .int (nI (mxN (azN (eC o)) (knj (eC o))))), (4, .int (nI (su (mnN (eC o) 9) (knj (eC o))))), (3, .int (nI (su (azN (eC o)) (knj (eC o))))), (2, .int (nI (knj (eC o)))), (1, .int (nI (knv (eC o)))), (0, .ref (adE d))]) hx hb dL_fits_532 hl (by decide) rfl (fun ls hl => ?_)
                      refine lv_iload hx hb dL_fits_534 (lv_at hl 1 rfl) ?_
                      refine lv_istore (lv' := [(14, .int (nI jj)), (9, .int 1), (16, .int (nI jj)), (15, .int (nI i)), (13, .int (nI k)), (12, .int (nI (lsN (eC o) (k + 1)))), (11, .int (nI (mxN (loadN (eC o)) (k + 1)))), (10, .int (nI (su (oN (eC o)) (k + 1)))), (8, .ref ma), (7, .ref la), (6, .int (mvF (eC o) (knj (eC o)))), (5, .int (nI (mxN (azN (eC o)) (knj (eC o))))), (4, .int (nI (su (mnN (eC o) 9) (knj (eC o))))), (3, .int (nI (su (azN (eC o)) (knj (eC o))))), (2, .int (nI (knj (eC o)))), (1, .int (nI (knv (eC o)))), (0, .ref (adE d))]) hx hb dL_fits_536 hl (by decide) rfl (fun ls hl => ?_)
                      refine lv_iinc (v := (nI (i + 1))) (lv' := [(15, .int (nI (i + 1))), (14, .int (nI jj)), (9, .int 1), (16, .int (nI jj)), (13, .int (nI k)), (12, .int (nI (lsN (eC o) (k + 1)))), (11, .int (nI (mxN (loadN (eC o)) (k + 1)))), (10, .int (nI (su (oN (eC o)) (k + 1)))), (8, .ref ma), (7, .ref la), (6, .int (mvF (eC o) (knj (eC o)))), (5, .int (nI (mxN (azN (eC o)) (knj (eC o))))), (4, .int (nI (su (mnN (eC o) 9) (knj (eC o))))), (3, .int (nI (su (azN (eC o)) (knj (eC o))))), (2, .int (nI (knj (eC o)))), (1, .int (nI (knv (eC o)))), (0, .ref (adE d))]) hx hb dL_fits_538 hl (k := 3) rfl (nI_1 i) (by decide) rfl (fun ls hl => ?_)
                      refine lv_goto (tgt := 403) hx hb dL_fits_541 (by decide) ?_
                      exact ih_i (i + 1) (by omega) (nI jj) H locs (Or.inr ⟨jj, hjj, rfl, hpj, by omega⟩) hP hD hS ls (lv_sub hl [0, 1, 4, 5, 6, 7, 2, 8, 9, 10, 11, 12, 13, 14, 15, 16] rfl)
                    · skip
                      have d500 : ¬ qN (eC o) jp < qN (eC o) jj := fun q => c500 ((nI_ltI (by omega) (by omega)).mpr q)
                      refine lv_aload_n hx hb dL_fits_503 rfl (lv_at hl 16 rfl) ?_
                      refine lv_iload hx hb dL_fits_504 (lv_at hl 0 rfl) ?_
                      refine lv_iconst (v := 1) hx hb dL_fits_506 (by decide) ?_
                      refine xpV (rest := []) ⟨hx, hb, hml, hown, hts⟩ (x_job l G cI cQ d o hE (nI jj) 1) (cwV 2 hts gL_fits_X4_job rfl rfl rfl cd_X4_job ⟨Nat.le_of_ble_eq_true rfl, Nat.le_of_ble_eq_true rfl⟩) hK (P_tl (P_tl hP)) rfl hl.1 rfl (Nat.le_of_ble_eq_true rfl) dL_fits_507 ⟨Nat.le_of_ble_eq_true rfl, Nat.le_of_ble_eq_true rfl⟩ ?_
                      refine lv_cvt (y := (nI (qN (eC o) jj))) (vj1 w.1 hjj) ?_
                      refine lv_aload_n hx hb dL_fits_510 rfl (lv_at hl 16 rfl) ?_
                      refine lv_iload hx hb dL_fits_511 (lv_at hl 2 rfl) ?_
                      refine lv_iconst (v := 1) hx hb dL_fits_513 (by decide) ?_
                      refine xpV (rest := [.int (nI (qN (eC o) jj))]) ⟨hx, hb, hml, hown, hts⟩ (x_job l G cI cQ d o hE (nI jp) 1) (cwV 2 hts gL_fits_X4_job rfl rfl rfl cd_X4_job ⟨Nat.le_of_ble_eq_true rfl, Nat.le_of_ble_eq_true rfl⟩) hK (P_tl (P_tl hP)) rfl hl.1 rfl (Nat.le_of_ble_eq_true rfl) dL_fits_514 ⟨Nat.le_of_ble_eq_true rfl, Nat.le_of_ble_eq_true rfl⟩ ?_
                      refine lv_cvt (y := (nI (qN (eC o) jp))) (vj1 w.1 hjp) ?_
                      refine lv_icmp_ne (tgt := 531) hx hb dL_fits_517 (by decide) (fun c => False.elim (c (congrArg nI (by omega)))) (fun _ => ?_)
                      refine lv_iload hx hb dL_fits_520 (lv_at hl 0 rfl) ?_
                      refine lv_iload hx hb dL_fits_522 (lv_at hl 2 rfl) ?_
                      refine lv_icmp_le (tgt := 531) hx hb dL_fits_524 (by decide) (fun c => False.elim (absurd ((nI_leI (by omega) (by omega)).mp c) (by omega))) (fun _ => ?_)
                      refine lv_iconst (v := 1) hx hb dL_fits_527 (by decide) ?_
                      refine lv_goto (tgt := 532) hx hb dL_fits_528 (by decide) ?_
                      refine lv_istore (lv' := [(9, .int 1), (16, .int (nI jj)), (15, .int (nI i)), (14, .int (nI jp)), (13, .int (nI k)), (12, .int (nI (lsN (eC o) (k + 1)))), (11, .int (nI (mxN (loadN (eC o)) (k + 1)))), (10, .int (nI (su (oN (eC o)) (k + 1)))), (8, .ref ma), (7, .ref la), (6, .int (mvF (eC o) (knj (eC o)))), (5, .int (nI (mxN (azN (eC o)) (knj (eC o))))), (4, .int (nI (su (mnN (eC o) 9) (knj (eC o))))), (3, .int (nI (su (azN (eC o)) (knj (eC o))))), (2, .int (nI (knj (eC o)))), (1, .int (nI (knv (eC o)))), (0, .ref (adE d))]) hx hb dL_fits_532 hl (by decide) rfl (fun ls hl => ?_)
                      refine lv_iload hx hb dL_fits_534 (lv_at hl 1 rfl) ?_
                      refine lv_istore (lv' := [(14, .int (nI jj)), (9, .int 1), (16, .int (nI jj)), (15, .int (nI i)), (13, .int (nI k)), (12, .int (nI (lsN (eC o) (k + 1)))), (11, .int (nI (mxN (loadN (eC o)) (k + 1)))), (10, .int (nI (su (oN (eC o)) (k + 1)))), (8, .ref ma), (7, .ref la), (6, .int (mvF (eC o) (knj (eC o)))), (5, .int (nI (mxN (azN (eC o)) (knj (eC o))))), (4, .int (nI (su (mnN (eC o) 9) (knj (eC o))))), (3, .int (nI (su (azN (eC o)) (knj (eC o))))), (2, .int (nI (knj (eC o)))), (1, .int (nI (knv (eC o)))), (0, .ref (adE d))]) hx hb dL_fits_536 hl (by decide) rfl (fun ls hl => ?_)
                      refine lv_iinc (v := (nI (i + 1))) (lv' := [(15, .int (nI (i + 1))), (14, .int (nI jj)), (9, .int 1), (16, .int (nI jj)), (13, .int (nI k)), (12, .int (nI (lsN (eC o) (k + 1)))), (11, .int (nI (mxN (loadN (eC o)) (k + 1)))), (10, .int (nI (su (oN (eC o)) (k + 1)))), (8, .ref ma), (7, .ref la), (6, .int (mvF (eC o) (knj (eC o)))), (5, .int (nI (mxN (azN (eC o)) (knj (eC o))))), (4, .int (nI (su (mnN (eC o) 9) (knj (eC o))))), (3, .int (nI (su (azN (eC o)) (knj (eC o))))), (2, .int (nI (knj (eC o)))), (1, .int (nI (knv (eC o)))), (0, .ref (adE d))]) hx hb dL_fits_538 hl (k := 3) rfl (nI_1 i) (by decide) rfl (fun ls hl => ?_)
                      refine lv_goto (tgt := 403) hx hb dL_fits_541 (by decide) ?_
                      exact ih_i (i + 1) (by omega) (nI jj) H locs (Or.inr ⟨jj, hjj, rfl, hpj, by omega⟩) hP hD hS ls (lv_sub hl [0, 1, 4, 5, 6, 7, 2, 8, 9, 10, 11, 12, 13, 14, 15, 16] rfl)
            exact K5 (manyN (eC o) k) 0 (by omega) (-9) H locs (Or.inl ⟨rfl, rfl⟩) hP hD hS _ hl
          have K329 : ∀ (ls : Array Slot), lv_has ls 17 [(13, .int (nI k)), (12, .int (nI (lsN (eC o) k))), (11, .int (nI (mxN (loadN (eC o)) k))), (10, .int (nI (su (oN (eC o)) k))), (9, .int 1), (8, .ref ma), (7, .ref la), (6, .int (mvF (eC o) (knj (eC o)))), (5, .int (nI (mxN (azN (eC o)) (knj (eC o))))), (4, .int (nI (su (mnN (eC o) 9) (knj (eC o))))), (3, .int (nI (su (azN (eC o)) (knj (eC o))))), (2, .int (nI (knj (eC o)))), (1, .int (nI (knv (eC o)))), (0, .ref (adE d))] → W p l e ({ frames := 5, cells := 2, slots := 12, locals := 143 } : Room) s m ([.ref (adE d)] : List Value).toArray below meth cd H locs 2 12 (MQ below (va_Qi (fun (r : Int32) (u : ES) => r = 1 ∧ (EI u ∧ eC u = eC o)) (mB G (A) (XW cI cQ d)) (A)) ([.ref (adE d)] : List Value).toArray s 2 12 A) (F0 m 329 ls []) := by
            intro ls hl
            refine lv_iload hx hb dL_fits_329 (lv_at hl 3 rfl) ?_
            refine lv_aload_n hx hb dL_fits_331 rfl (lv_at hl 13 rfl) ?_
            refine lv_iload hx hb dL_fits_332 (lv_at hl 0 rfl) ?_
            refine lv_iconst (v := 0) hx hb dL_fits_334 (by decide) ?_
            refine xpV (rest := [.int (nI (su (oN (eC o)) k))]) ⟨hx, hb, hml, hown, hts⟩ (x_server l G cI cQ d o hE (nI k) 0) (cwV 2 hts gL_fits_X4_server rfl rfl rfl cd_X4_server ⟨Nat.le_of_ble_eq_true rfl, Nat.le_of_ble_eq_true rfl⟩) hK (P_tl (P_tl hP)) rfl hl.1 rfl (Nat.le_of_ble_eq_true rfl) dL_fits_335 ⟨Nat.le_of_ble_eq_true rfl, Nat.le_of_ble_eq_true rfl⟩ ?_
            by_cases ko : kop (eC o) k = 1
            · skip
              refine lv_cvt (y := 1) ((vs0 w.1 lt_k).trans (congrArg nI (if_pos ko))) ?_
              refine lv_iadd hx hb dL_fits_338 ?_
              refine lv_cvt (y := (nI (su (oN (eC o)) (k + 1)))) ((nI_1 _).trans (congrArg nI (by show _ = su (oN (eC o)) k + oN (eC o) k; rw [show oN (eC o) k = 1 from if_pos ko]))) ?_
              refine lv_istore (lv' := [(10, .int (nI (su (oN (eC o)) (k + 1)))), (13, .int (nI k)), (12, .int (nI (lsN (eC o) k))), (11, .int (nI (mxN (loadN (eC o)) k))), (9, .int 1), (8, .ref ma), (7, .ref la), (6, .int (mvF (eC o) (knj (eC o)))), (5, .int (nI (mxN (azN (eC o)) (knj (eC o))))), (4, .int (nI (su (mnN (eC o) 9) (knj (eC o))))), (3, .int (nI (su (azN (eC o)) (knj (eC o))))), (2, .int (nI (knj (eC o)))), (1, .int (nI (knv (eC o)))), (0, .ref (adE d))]) hx hb dL_fits_339 hl (by decide) rfl (fun ls hl => ?_)
              refine lv_aload hx hb dL_fits_341 (lv_at hl 6 rfl) ?_
              refine lv_iload hx hb dL_fits_343 (lv_at hl 1 rfl) ?_
              refine iald_n hx hb hK hP 1 rfl k rfl k6 (by decide) dL_fits_345 ?_
              refine lv_cvt (y := (nI (loadN (eC o) k))) (rfl) ?_
              refine lv_iload hx hb dL_fits_346 (lv_at hl 3 rfl) ?_
              refine lv_icmp_le (tgt := 359) hx hb dL_fits_348 (by decide) (fun c348 => ?_) (fun c348 => ?_)
              · skip
                refine lv_iload hx hb dL_fits_359 (lv_at hl 3 rfl) ?_
                have moB : mxN (loadN (eC o)) k ≤ 24000 := mxN_le (fun q _ => load_le w.1 q)
                refine lv_cvt (y := (nI (mxN (loadN (eC o)) (k + 1)))) (congrArg nI (Nat.max_eq_left ((nI_leI (by omega) (by omega)).mp c348)).symm) ?_
                refine lv_istore (lv' := [(11, .int (nI (mxN (loadN (eC o)) (k + 1)))), (10, .int (nI (su (oN (eC o)) (k + 1)))), (13, .int (nI k)), (12, .int (nI (lsN (eC o) k))), (9, .int 1), (8, .ref ma), (7, .ref la), (6, .int (mvF (eC o) (knj (eC o)))), (5, .int (nI (mxN (azN (eC o)) (knj (eC o))))), (4, .int (nI (su (mnN (eC o) 9) (knj (eC o))))), (3, .int (nI (su (azN (eC o)) (knj (eC o))))), (2, .int (nI (knj (eC o)))), (1, .int (nI (knv (eC o)))), (0, .ref (adE d))]) hx hb dL_fits_361 hl (by decide) rfl (fun ls hl => ?_)
                refine lv_aload_n hx hb dL_fits_363 rfl (lv_at hl 13 rfl) ?_
                refine lv_iload hx hb dL_fits_364 (lv_at hl 2 rfl) ?_
                refine lv_iconst (v := 0) hx hb dL_fits_366 (by decide) ?_
                refine xpV (rest := []) ⟨hx, hb, hml, hown, hts⟩ (x_server l G cI cQ d o hE (nI k) 0) (cwV 2 hts gL_fits_X4_server rfl rfl rfl cd_X4_server ⟨Nat.le_of_ble_eq_true rfl, Nat.le_of_ble_eq_true rfl⟩) hK (P_tl (P_tl hP)) rfl hl.1 rfl (Nat.le_of_ble_eq_true rfl) dL_fits_367 ⟨Nat.le_of_ble_eq_true rfl, Nat.le_of_ble_eq_true rfl⟩ ?_
                refine lv_cvt (y := 1) ((vs0 w.1 lt_k).trans (congrArg nI (if_pos ko))) ?_
                refine lv_iconst (v := 1) hx hb dL_fits_370 (by decide) ?_
                refine lv_icmp_ne (tgt := 392) hx hb dL_fits_371 (by decide) (fun c => absurd c (by decide)) (fun _ => ?_)
                refine lv_aload hx hb dL_fits_374 (lv_at hl 6 rfl) ?_
                refine lv_iload hx hb dL_fits_376 (lv_at hl 2 rfl) ?_
                refine iald_n hx hb hK hP 1 rfl k rfl k6 (by decide) dL_fits_378 ?_
                refine lv_cvt (y := (nI (loadN (eC o) k))) (rfl) ?_
                refine lv_iload hx hb dL_fits_379 (lv_at hl 3 rfl) ?_
                refine lv_icmp_ge (tgt := 392) hx hb dL_fits_381 (by decide) (fun c381 => ?_) (fun c381 => ?_)
                · skip
                  refine lv_iload hx hb dL_fits_392 (lv_at hl 3 rfl) ?_
                  have lsK := lsB k
                  refine lv_cvt (y := (nI (lsN (eC o) (k + 1)))) (congrArg nI (if_neg (fun q => absurd ((nI_leI (by omega) (by omega)).mp c381) (by omega))).symm) ?_
                  refine lv_istore (lv' := [(12, .int (nI (lsN (eC o) (k + 1)))), (11, .int (nI (mxN (loadN (eC o)) (k + 1)))), (10, .int (nI (su (oN (eC o)) (k + 1)))), (13, .int (nI k)), (9, .int 1), (8, .ref ma), (7, .ref la), (6, .int (mvF (eC o) (knj (eC o)))), (5, .int (nI (mxN (azN (eC o)) (knj (eC o))))), (4, .int (nI (su (mnN (eC o) 9) (knj (eC o))))), (3, .int (nI (su (azN (eC o)) (knj (eC o))))), (2, .int (nI (knj (eC o)))), (1, .int (nI (knv (eC o)))), (0, .ref (adE d))]) hx hb dL_fits_394 hl (by decide) rfl (fun ls hl => ?_)
                  exact K396 ls (lv_sub hl [3, 0, 1, 2, 4, 5, 6, 7, 8, 9, 10, 11, 12, 13] rfl)
                · skip
                  refine lv_aload hx hb dL_fits_384 (lv_at hl 6 rfl) ?_
                  refine lv_iload hx hb dL_fits_386 (lv_at hl 2 rfl) ?_
                  refine iald_n hx hb hK hP 1 rfl k rfl k6 (by decide) dL_fits_388 ?_
                  refine lv_cvt (y := (nI (loadN (eC o) k))) (rfl) ?_
                  refine lv_goto (tgt := 394) hx hb dL_fits_389 (by decide) ?_
                  have lsK := lsB k
                  refine lv_cvt (y := (nI (lsN (eC o) (k + 1)))) (congrArg nI (if_pos ⟨ko, Nat.lt_of_not_le (fun q => c381 ((nI_leI (by omega) (by omega)).mpr q))⟩).symm) ?_
                  refine lv_istore (lv' := [(12, .int (nI (lsN (eC o) (k + 1)))), (11, .int (nI (mxN (loadN (eC o)) (k + 1)))), (10, .int (nI (su (oN (eC o)) (k + 1)))), (13, .int (nI k)), (9, .int 1), (8, .ref ma), (7, .ref la), (6, .int (mvF (eC o) (knj (eC o)))), (5, .int (nI (mxN (azN (eC o)) (knj (eC o))))), (4, .int (nI (su (mnN (eC o) 9) (knj (eC o))))), (3, .int (nI (su (azN (eC o)) (knj (eC o))))), (2, .int (nI (knj (eC o)))), (1, .int (nI (knv (eC o)))), (0, .ref (adE d))]) hx hb dL_fits_394 hl (by decide) rfl (fun ls hl => ?_)
                  exact K396 ls (lv_sub hl [3, 0, 1, 2, 4, 5, 6, 7, 8, 9, 10, 11, 12, 13] rfl)
              · skip
                refine lv_aload hx hb dL_fits_351 (lv_at hl 6 rfl) ?_
                refine lv_iload hx hb dL_fits_353 (lv_at hl 1 rfl) ?_
                refine iald_n hx hb hK hP 1 rfl k rfl k6 (by decide) dL_fits_355 ?_
                refine lv_cvt (y := (nI (loadN (eC o) k))) (rfl) ?_
                refine lv_goto (tgt := 361) hx hb dL_fits_356 (by decide) ?_
                have moB : mxN (loadN (eC o)) k ≤ 24000 := mxN_le (fun q _ => load_le w.1 q)
                refine lv_cvt (y := (nI (mxN (loadN (eC o)) (k + 1)))) (congrArg nI (Nat.max_eq_right (Nat.le_of_lt (Nat.lt_of_not_le (fun q => c348 ((nI_leI (by omega) (by omega)).mpr q))))).symm) ?_
                refine lv_istore (lv' := [(11, .int (nI (mxN (loadN (eC o)) (k + 1)))), (10, .int (nI (su (oN (eC o)) (k + 1)))), (13, .int (nI k)), (12, .int (nI (lsN (eC o) k))), (9, .int 1), (8, .ref ma), (7, .ref la), (6, .int (mvF (eC o) (knj (eC o)))), (5, .int (nI (mxN (azN (eC o)) (knj (eC o))))), (4, .int (nI (su (mnN (eC o) 9) (knj (eC o))))), (3, .int (nI (su (azN (eC o)) (knj (eC o))))), (2, .int (nI (knj (eC o)))), (1, .int (nI (knv (eC o)))), (0, .ref (adE d))]) hx hb dL_fits_361 hl (by decide) rfl (fun ls hl => ?_)
                refine lv_aload_n hx hb dL_fits_363 rfl (lv_at hl 13 rfl) ?_
                refine lv_iload hx hb dL_fits_364 (lv_at hl 2 rfl) ?_
                refine lv_iconst (v := 0) hx hb dL_fits_366 (by decide) ?_
                refine xpV (rest := []) ⟨hx, hb, hml, hown, hts⟩ (x_server l G cI cQ d o hE (nI k) 0) (cwV 2 hts gL_fits_X4_server rfl rfl rfl cd_X4_server ⟨Nat.le_of_ble_eq_true rfl, Nat.le_of_ble_eq_true rfl⟩) hK (P_tl (P_tl hP)) rfl hl.1 rfl (Nat.le_of_ble_eq_true rfl) dL_fits_367 ⟨Nat.le_of_ble_eq_true rfl, Nat.le_of_ble_eq_true rfl⟩ ?_
                refine lv_cvt (y := 1) ((vs0 w.1 lt_k).trans (congrArg nI (if_pos ko))) ?_
                refine lv_iconst (v := 1) hx hb dL_fits_370 (by decide) ?_
                refine lv_icmp_ne (tgt := 392) hx hb dL_fits_371 (by decide) (fun c => absurd c (by decide)) (fun _ => ?_)
                refine lv_aload hx hb dL_fits_374 (lv_at hl 6 rfl) ?_
                refine lv_iload hx hb dL_fits_376 (lv_at hl 2 rfl) ?_
                refine iald_n hx hb hK hP 1 rfl k rfl k6 (by decide) dL_fits_378 ?_
                refine lv_cvt (y := (nI (loadN (eC o) k))) (rfl) ?_
                refine lv_iload hx hb dL_fits_379 (lv_at hl 3 rfl) ?_
                refine lv_icmp_ge (tgt := 392) hx hb dL_fits_381 (by decide) (fun c381 => ?_) (fun c381 => ?_)
                · skip
                  refine lv_iload hx hb dL_fits_392 (lv_at hl 3 rfl) ?_
                  have lsK := lsB k
                  refine lv_cvt (y := (nI (lsN (eC o) (k + 1)))) (congrArg nI (if_neg (fun q => absurd ((nI_leI (by omega) (by omega)).mp c381) (by omega))).symm) ?_
                  refine lv_istore (lv' := [(12, .int (nI (lsN (eC o) (k + 1)))), (11, .int (nI (mxN (loadN (eC o)) (k + 1)))), (10, .int (nI (su (oN (eC o)) (k + 1)))), (13, .int (nI k)), (9, .int 1), (8, .ref ma), (7, .ref la), (6, .int (mvF (eC o) (knj (eC o)))), (5, .int (nI (mxN (azN (eC o)) (knj (eC o))))), (4, .int (nI (su (mnN (eC o) 9) (knj (eC o))))), (3, .int (nI (su (azN (eC o)) (knj (eC o))))), (2, .int (nI (knj (eC o)))), (1, .int (nI (knv (eC o)))), (0, .ref (adE d))]) hx hb dL_fits_394 hl (by decide) rfl (fun ls hl => ?_)
                  exact K396 ls (lv_sub hl [3, 0, 1, 2, 4, 5, 6, 7, 8, 9, 10, 11, 12, 13] rfl)
                · skip
                  refine lv_aload hx hb dL_fits_384 (lv_at hl 6 rfl) ?_
                  refine lv_iload hx hb dL_fits_386 (lv_at hl 2 rfl) ?_
                  refine iald_n hx hb hK hP 1 rfl k rfl k6 (by decide) dL_fits_388 ?_
                  refine lv_cvt (y := (nI (loadN (eC o) k))) (rfl) ?_
                  refine lv_goto (tgt := 394) hx hb dL_fits_389 (by decide) ?_
                  have lsK := lsB k
                  refine lv_cvt (y := (nI (lsN (eC o) (k + 1)))) (congrArg nI (if_pos ⟨ko, Nat.lt_of_not_le (fun q => c381 ((nI_leI (by omega) (by omega)).mpr q))⟩).symm) ?_
                  refine lv_istore (lv' := [(12, .int (nI (lsN (eC o) (k + 1)))), (11, .int (nI (mxN (loadN (eC o)) (k + 1)))), (10, .int (nI (su (oN (eC o)) (k + 1)))), (13, .int (nI k)), (9, .int 1), (8, .ref ma), (7, .ref la), (6, .int (mvF (eC o) (knj (eC o)))), (5, .int (nI (mxN (azN (eC o)) (knj (eC o))))), (4, .int (nI (su (mnN (eC o) 9) (knj (eC o))))), (3, .int (nI (su (azN (eC o)) (knj (eC o))))), (2, .int (nI (knj (eC o)))), (1, .int (nI (knv (eC o)))), (0, .ref (adE d))]) hx hb dL_fits_394 hl (by decide) rfl (fun ls hl => ?_)
                  exact K396 ls (lv_sub hl [3, 0, 1, 2, 4, 5, 6, 7, 8, 9, 10, 11, 12, 13] rfl)
            · skip
              refine lv_cvt (y := 0) ((vs0 w.1 lt_k).trans (congrArg nI (if_neg ko))) ?_
              refine lv_iadd hx hb dL_fits_338 ?_
              refine lv_cvt (y := (nI (su (oN (eC o)) (k + 1)))) ((Int32.add_zero _).trans (congrArg nI (by show _ = su (oN (eC o)) k + oN (eC o) k; rw [show oN (eC o) k = 0 from if_neg ko]; rfl))) ?_
              refine lv_istore (lv' := [(10, .int (nI (su (oN (eC o)) (k + 1)))), (13, .int (nI k)), (12, .int (nI (lsN (eC o) k))), (11, .int (nI (mxN (loadN (eC o)) k))), (9, .int 1), (8, .ref ma), (7, .ref la), (6, .int (mvF (eC o) (knj (eC o)))), (5, .int (nI (mxN (azN (eC o)) (knj (eC o))))), (4, .int (nI (su (mnN (eC o) 9) (knj (eC o))))), (3, .int (nI (su (azN (eC o)) (knj (eC o))))), (2, .int (nI (knj (eC o)))), (1, .int (nI (knv (eC o)))), (0, .ref (adE d))]) hx hb dL_fits_339 hl (by decide) rfl (fun ls hl => ?_)
              refine lv_aload hx hb dL_fits_341 (lv_at hl 6 rfl) ?_
              refine lv_iload hx hb dL_fits_343 (lv_at hl 1 rfl) ?_
              refine iald_n hx hb hK hP 1 rfl k rfl k6 (by decide) dL_fits_345 ?_
              refine lv_cvt (y := (nI (loadN (eC o) k))) (rfl) ?_
              refine lv_iload hx hb dL_fits_346 (lv_at hl 3 rfl) ?_
              refine lv_icmp_le (tgt := 359) hx hb dL_fits_348 (by decide) (fun c348 => ?_) (fun c348 => ?_)
              · skip
                refine lv_iload hx hb dL_fits_359 (lv_at hl 3 rfl) ?_
                have moB : mxN (loadN (eC o)) k ≤ 24000 := mxN_le (fun q _ => load_le w.1 q)
                refine lv_cvt (y := (nI (mxN (loadN (eC o)) (k + 1)))) (congrArg nI (Nat.max_eq_left ((nI_leI (by omega) (by omega)).mp c348)).symm) ?_
                refine lv_istore (lv' := [(11, .int (nI (mxN (loadN (eC o)) (k + 1)))), (10, .int (nI (su (oN (eC o)) (k + 1)))), (13, .int (nI k)), (12, .int (nI (lsN (eC o) k))), (9, .int 1), (8, .ref ma), (7, .ref la), (6, .int (mvF (eC o) (knj (eC o)))), (5, .int (nI (mxN (azN (eC o)) (knj (eC o))))), (4, .int (nI (su (mnN (eC o) 9) (knj (eC o))))), (3, .int (nI (su (azN (eC o)) (knj (eC o))))), (2, .int (nI (knj (eC o)))), (1, .int (nI (knv (eC o)))), (0, .ref (adE d))]) hx hb dL_fits_361 hl (by decide) rfl (fun ls hl => ?_)
                refine lv_aload_n hx hb dL_fits_363 rfl (lv_at hl 13 rfl) ?_
                refine lv_iload hx hb dL_fits_364 (lv_at hl 2 rfl) ?_
                refine lv_iconst (v := 0) hx hb dL_fits_366 (by decide) ?_
                refine xpV (rest := []) ⟨hx, hb, hml, hown, hts⟩ (x_server l G cI cQ d o hE (nI k) 0) (cwV 2 hts gL_fits_X4_server rfl rfl rfl cd_X4_server ⟨Nat.le_of_ble_eq_true rfl, Nat.le_of_ble_eq_true rfl⟩) hK (P_tl (P_tl hP)) rfl hl.1 rfl (Nat.le_of_ble_eq_true rfl) dL_fits_367 ⟨Nat.le_of_ble_eq_true rfl, Nat.le_of_ble_eq_true rfl⟩ ?_
                refine lv_cvt (y := 0) ((vs0 w.1 lt_k).trans (congrArg nI (if_neg ko))) ?_
                refine lv_iconst (v := 1) hx hb dL_fits_370 (by decide) ?_
                refine lv_icmp_ne (tgt := 392) hx hb dL_fits_371 (by decide) (fun _ => ?_) (fun c => absurd c (by decide))
                refine lv_iload hx hb dL_fits_392 (lv_at hl 3 rfl) ?_
                have lsK := lsB k
                refine lv_cvt (y := (nI (lsN (eC o) (k + 1)))) (congrArg nI (if_neg (fun q => ko q.1)).symm) ?_
                refine lv_istore (lv' := [(12, .int (nI (lsN (eC o) (k + 1)))), (11, .int (nI (mxN (loadN (eC o)) (k + 1)))), (10, .int (nI (su (oN (eC o)) (k + 1)))), (13, .int (nI k)), (9, .int 1), (8, .ref ma), (7, .ref la), (6, .int (mvF (eC o) (knj (eC o)))), (5, .int (nI (mxN (azN (eC o)) (knj (eC o))))), (4, .int (nI (su (mnN (eC o) 9) (knj (eC o))))), (3, .int (nI (su (azN (eC o)) (knj (eC o))))), (2, .int (nI (knj (eC o)))), (1, .int (nI (knv (eC o)))), (0, .ref (adE d))]) hx hb dL_fits_394 hl (by decide) rfl (fun ls hl => ?_)
                exact K396 ls (lv_sub hl [3, 0, 1, 2, 4, 5, 6, 7, 8, 9, 10, 11, 12, 13] rfl)
              · skip
                refine lv_aload hx hb dL_fits_351 (lv_at hl 6 rfl) ?_
                refine lv_iload hx hb dL_fits_353 (lv_at hl 1 rfl) ?_
                refine iald_n hx hb hK hP 1 rfl k rfl k6 (by decide) dL_fits_355 ?_
                refine lv_cvt (y := (nI (loadN (eC o) k))) (rfl) ?_
                refine lv_goto (tgt := 361) hx hb dL_fits_356 (by decide) ?_
                have moB : mxN (loadN (eC o)) k ≤ 24000 := mxN_le (fun q _ => load_le w.1 q)
                refine lv_cvt (y := (nI (mxN (loadN (eC o)) (k + 1)))) (congrArg nI (Nat.max_eq_right (Nat.le_of_lt (Nat.lt_of_not_le (fun q => c348 ((nI_leI (by omega) (by omega)).mpr q))))).symm) ?_
                refine lv_istore (lv' := [(11, .int (nI (mxN (loadN (eC o)) (k + 1)))), (10, .int (nI (su (oN (eC o)) (k + 1)))), (13, .int (nI k)), (12, .int (nI (lsN (eC o) k))), (9, .int 1), (8, .ref ma), (7, .ref la), (6, .int (mvF (eC o) (knj (eC o)))), (5, .int (nI (mxN (azN (eC o)) (knj (eC o))))), (4, .int (nI (su (mnN (eC o) 9) (knj (eC o))))), (3, .int (nI (su (azN (eC o)) (knj (eC o))))), (2, .int (nI (knj (eC o)))), (1, .int (nI (knv (eC o)))), (0, .ref (adE d))]) hx hb dL_fits_361 hl (by decide) rfl (fun ls hl => ?_)
                refine lv_aload_n hx hb dL_fits_363 rfl (lv_at hl 13 rfl) ?_
                refine lv_iload hx hb dL_fits_364 (lv_at hl 2 rfl) ?_
                refine lv_iconst (v := 0) hx hb dL_fits_366 (by decide) ?_
                refine xpV (rest := []) ⟨hx, hb, hml, hown, hts⟩ (x_server l G cI cQ d o hE (nI k) 0) (cwV 2 hts gL_fits_X4_server rfl rfl rfl cd_X4_server ⟨Nat.le_of_ble_eq_true rfl, Nat.le_of_ble_eq_true rfl⟩) hK (P_tl (P_tl hP)) rfl hl.1 rfl (Nat.le_of_ble_eq_true rfl) dL_fits_367 ⟨Nat.le_of_ble_eq_true rfl, Nat.le_of_ble_eq_true rfl⟩ ?_
                refine lv_cvt (y := 0) ((vs0 w.1 lt_k).trans (congrArg nI (if_neg ko))) ?_
                refine lv_iconst (v := 1) hx hb dL_fits_370 (by decide) ?_
                refine lv_icmp_ne (tgt := 392) hx hb dL_fits_371 (by decide) (fun _ => ?_) (fun c => absurd c (by decide))
                refine lv_iload hx hb dL_fits_392 (lv_at hl 3 rfl) ?_
                have lsK := lsB k
                refine lv_cvt (y := (nI (lsN (eC o) (k + 1)))) (congrArg nI (if_neg (fun q => ko q.1)).symm) ?_
                refine lv_istore (lv' := [(12, .int (nI (lsN (eC o) (k + 1)))), (11, .int (nI (mxN (loadN (eC o)) (k + 1)))), (10, .int (nI (su (oN (eC o)) (k + 1)))), (13, .int (nI k)), (9, .int 1), (8, .ref ma), (7, .ref la), (6, .int (mvF (eC o) (knj (eC o)))), (5, .int (nI (mxN (azN (eC o)) (knj (eC o))))), (4, .int (nI (su (mnN (eC o) 9) (knj (eC o))))), (3, .int (nI (su (azN (eC o)) (knj (eC o))))), (2, .int (nI (knj (eC o)))), (1, .int (nI (knv (eC o)))), (0, .ref (adE d))]) hx hb dL_fits_394 hl (by decide) rfl (fun ls hl => ?_)
                exact K396 ls (lv_sub hl [3, 0, 1, 2, 4, 5, 6, 7, 8, 9, 10, 11, 12, 13] rfl)
          refine lv_aload_n hx hb dL_fits_244 rfl (lv_at hl 13 rfl) ?_
          refine lv_iload hx hb dL_fits_245 (lv_at hl 0 rfl) ?_
          refine lv_iconst (v := 1) hx hb dL_fits_247 (by decide) ?_
          refine xpV (rest := []) ⟨hx, hb, hml, hown, hts⟩ (x_server l G cI cQ d o hE (nI k) 1) (cwV 2 hts gL_fits_X4_server rfl rfl rfl cd_X4_server ⟨Nat.le_of_ble_eq_true rfl, Nat.le_of_ble_eq_true rfl⟩) hK (P_tl (P_tl hP)) rfl hl.1 rfl (Nat.le_of_ble_eq_true rfl) dL_fits_248 ⟨Nat.le_of_ble_eq_true rfl, Nat.le_of_ble_eq_true rfl⟩ ?_
          refine lv_cvt (y := (nI (loadN (eC o) k))) (vs1 w.1 lt_k) ?_
          refine lv_aload hx hb dL_fits_251 (lv_at hl 6 rfl) ?_
          refine lv_iload hx hb dL_fits_253 (lv_at hl 0 rfl) ?_
          refine iald_n hx hb hK hP 1 rfl k rfl k6 (by decide) dL_fits_255 ?_
          refine lv_cvt (y := (nI (loadN (eC o) k))) (rfl) ?_
          refine lv_icmp_ne (tgt := 326) hx hb dL_fits_256 (by decide) (fun c => False.elim (c rfl)) (fun _ => ?_)
          refine lv_aload_n hx hb dL_fits_259 rfl (lv_at hl 13 rfl) ?_
          refine lv_iload hx hb dL_fits_260 (lv_at hl 0 rfl) ?_
          refine lv_iconst (v := 2) hx hb dL_fits_262 (by decide) ?_
          refine xpV (rest := []) ⟨hx, hb, hml, hown, hts⟩ (x_server l G cI cQ d o hE (nI k) 2) (cwV 2 hts gL_fits_X4_server rfl rfl rfl cd_X4_server ⟨Nat.le_of_ble_eq_true rfl, Nat.le_of_ble_eq_true rfl⟩) hK (P_tl (P_tl hP)) rfl hl.1 rfl (Nat.le_of_ble_eq_true rfl) dL_fits_263 ⟨Nat.le_of_ble_eq_true rfl, Nat.le_of_ble_eq_true rfl⟩ ?_
          refine lv_cvt (y := (nI (manyN (eC o) k))) (vs2 w.1 lt_k) ?_
          refine lv_aload hx hb dL_fits_266 (lv_at hl 5 rfl) ?_
          refine lv_iload hx hb dL_fits_268 (lv_at hl 0 rfl) ?_
          refine iald_n hx hb hK hP 0 rfl k rfl k6 (by decide) dL_fits_270 ?_
          refine lv_cvt (y := (nI (manyN (eC o) k))) (rfl) ?_
          refine lv_icmp_ne (tgt := 326) hx hb dL_fits_271 (by decide) (fun c => False.elim (c rfl)) (fun _ => ?_)
          refine lv_aload_n hx hb dL_fits_274 rfl (lv_at hl 13 rfl) ?_
          refine lv_iload hx hb dL_fits_275 (lv_at hl 0 rfl) ?_
          refine lv_iconst (v := 3) hx hb dL_fits_277 (by decide) ?_
          refine xpV (rest := []) ⟨hx, hb, hml, hown, hts⟩ (x_server l G cI cQ d o hE (nI k) 3) (cwV 2 hts gL_fits_X4_server rfl rfl rfl cd_X4_server ⟨Nat.le_of_ble_eq_true rfl, Nat.le_of_ble_eq_true rfl⟩) hK (P_tl (P_tl hP)) rfl hl.1 rfl (Nat.le_of_ble_eq_true rfl) dL_fits_278 ⟨Nat.le_of_ble_eq_true rfl, Nat.le_of_ble_eq_true rfl⟩ ?_
          by_cases a0 : allN (eC o) = 0
          · skip
            refine lv_cvt (y := 0) ((vs3 w.1 lt_k).trans (if_pos a0)) ?_
            refine lv_iload_n hx hb dL_fits_281 rfl (lv_at hl 10 rfl) ?_
            refine lv_if_ne (tgt := 289) hx hb dL_fits_282 (by decide) (fun c => False.elim (c (congrArg nI a0))) (fun _ => ?_)
            refine lv_iconst (v := 0) hx hb dL_fits_285 (by decide) ?_
            refine lv_goto (tgt := 300) hx hb dL_fits_286 (by decide) ?_
            refine lv_icmp_ne (tgt := 326) hx hb dL_fits_300 (by decide) (fun c => False.elim (c rfl)) (fun _ => ?_)
            refine lv_aload_n hx hb dL_fits_303 rfl (lv_at hl 13 rfl) ?_
            refine lv_iload hx hb dL_fits_304 (lv_at hl 0 rfl) ?_
            refine lv_iconst (v := 0) hx hb dL_fits_306 (by decide) ?_
            refine xpV (rest := []) ⟨hx, hb, hml, hown, hts⟩ (x_server l G cI cQ d o hE (nI k) 0) (cwV 2 hts gL_fits_X4_server rfl rfl rfl cd_X4_server ⟨Nat.le_of_ble_eq_true rfl, Nat.le_of_ble_eq_true rfl⟩) hK (P_tl (P_tl hP)) rfl hl.1 rfl (Nat.le_of_ble_eq_true rfl) dL_fits_307 ⟨Nat.le_of_ble_eq_true rfl, Nat.le_of_ble_eq_true rfl⟩ ?_
            by_cases ko : kop (eC o) k = 1
            · skip
              refine lv_cvt (y := 1) ((vs0 w.1 lt_k).trans (congrArg nI (if_pos ko))) ?_
              refine lv_iconst (v := 1) hx hb dL_fits_310 (by decide) ?_
              refine lv_icmp_eq (tgt := 322) hx hb dL_fits_311 (by decide) (fun _ => ?_) (fun c => absurd c (by decide))
              refine lv_iconst (v := 1) hx hb dL_fits_322 (by decide) ?_
              refine lv_goto (tgt := 327) hx hb dL_fits_323 (by decide) ?_
              refine lv_istore (lv' := [(9, .int 1), (13, .int (nI k)), (12, .int (nI (lsN (eC o) k))), (11, .int (nI (mxN (loadN (eC o)) k))), (10, .int (nI (su (oN (eC o)) k))), (8, .ref ma), (7, .ref la), (6, .int (mvF (eC o) (knj (eC o)))), (5, .int (nI (mxN (azN (eC o)) (knj (eC o))))), (4, .int (nI (su (mnN (eC o) 9) (knj (eC o))))), (3, .int (nI (su (azN (eC o)) (knj (eC o))))), (2, .int (nI (knj (eC o)))), (1, .int (nI (knv (eC o)))), (0, .ref (adE d))]) hx hb dL_fits_327 hl (by decide) rfl (fun ls hl => ?_)
              exact K329 ls (lv_sub hl [1, 2, 3, 4, 0, 5, 6, 7, 8, 9, 10, 11, 12, 13] rfl)
            · skip
              refine lv_cvt (y := 0) ((vs0 w.1 lt_k).trans (congrArg nI (if_neg ko))) ?_
              refine lv_iconst (v := 1) hx hb dL_fits_310 (by decide) ?_
              refine lv_icmp_eq (tgt := 322) hx hb dL_fits_311 (by decide) (fun c => absurd c (by decide)) (fun _ => ?_)
              refine lv_aload hx hb dL_fits_314 (lv_at hl 5 rfl) ?_
              refine lv_iload hx hb dL_fits_316 (lv_at hl 0 rfl) ?_
              refine iald_n hx hb hK hP 0 rfl k rfl k6 (by decide) dL_fits_318 ?_
              refine lv_cvt (y := 0) ((show _ = nI (manyN (eC o) k) from rfl).trans (congrArg nI (many_shut w.1 (by omega) (Or.inr ko)))) ?_
              refine lv_if_ne (tgt := 326) hx hb dL_fits_319 (by decide) (fun c => absurd c (by decide)) (fun _ => ?_)
              refine lv_iconst (v := 1) hx hb dL_fits_322 (by decide) ?_
              refine lv_goto (tgt := 327) hx hb dL_fits_323 (by decide) ?_
              refine lv_istore (lv' := [(9, .int 1), (13, .int (nI k)), (12, .int (nI (lsN (eC o) k))), (11, .int (nI (mxN (loadN (eC o)) k))), (10, .int (nI (su (oN (eC o)) k))), (8, .ref ma), (7, .ref la), (6, .int (mvF (eC o) (knj (eC o)))), (5, .int (nI (mxN (azN (eC o)) (knj (eC o))))), (4, .int (nI (su (mnN (eC o) 9) (knj (eC o))))), (3, .int (nI (su (azN (eC o)) (knj (eC o))))), (2, .int (nI (knj (eC o)))), (1, .int (nI (knv (eC o)))), (0, .ref (adE d))]) hx hb dL_fits_327 hl (by decide) rfl (fun ls hl => ?_)
              exact K329 ls (lv_sub hl [1, 2, 3, 4, 0, 5, 6, 7, 8, 9, 10, 11, 12, 13] rfl)
          · skip
            refine lv_cvt (y := (nI (1000 * loadN (eC o) k / allN (eC o)))) ((vs3 w.1 lt_k).trans (if_neg a0)) ?_
            refine lv_iload_n hx hb dL_fits_281 rfl (lv_at hl 10 rfl) ?_
            refine lv_if_ne (tgt := 289) hx hb dL_fits_282 (by decide) (fun _ => ?_) (fun c => False.elim (a0 ((nI_eq (a := allN (eC o)) (b := 0) (by omega) (by decide)).mp c)))
            refine lv_sipush (v := 1000) hx hb dL_fits_289 (by decide) ?_
            refine lv_aload hx hb dL_fits_292 (lv_at hl 6 rfl) ?_
            refine lv_iload hx hb dL_fits_294 (lv_at hl 0 rfl) ?_
            refine iald_n hx hb hK hP 1 rfl k rfl k6 (by decide) dL_fits_296 ?_
            refine lv_cvt (y := (nI (loadN (eC o) k))) (rfl) ?_
            refine lv_imul hx hb dL_fits_297 ?_
            refine lv_cvt (y := (nI (1000 * loadN (eC o) k))) (pk_mul 1000 _) ?_
            refine lv_iload_n hx hb dL_fits_298 rfl (lv_at hl 10 rfl) ?_
            refine lv_idiv hx hb dL_fits_299 (nI_ne0 (n := allN (eC o)) (Nat.pos_of_ne_zero a0) (by omega)) ?_
            refine lv_cvt (y := (nI (1000 * loadN (eC o) k / allN (eC o)))) (pk_div (d := allN (eC o)) (by omega) (Nat.pos_of_ne_zero a0) (by omega)) ?_
            refine lv_icmp_ne (tgt := 326) hx hb dL_fits_300 (by decide) (fun c => False.elim (c rfl)) (fun _ => ?_)
            refine lv_aload_n hx hb dL_fits_303 rfl (lv_at hl 13 rfl) ?_
            refine lv_iload hx hb dL_fits_304 (lv_at hl 0 rfl) ?_
            refine lv_iconst (v := 0) hx hb dL_fits_306 (by decide) ?_
            refine xpV (rest := []) ⟨hx, hb, hml, hown, hts⟩ (x_server l G cI cQ d o hE (nI k) 0) (cwV 2 hts gL_fits_X4_server rfl rfl rfl cd_X4_server ⟨Nat.le_of_ble_eq_true rfl, Nat.le_of_ble_eq_true rfl⟩) hK (P_tl (P_tl hP)) rfl hl.1 rfl (Nat.le_of_ble_eq_true rfl) dL_fits_307 ⟨Nat.le_of_ble_eq_true rfl, Nat.le_of_ble_eq_true rfl⟩ ?_
            by_cases ko : kop (eC o) k = 1
            · skip
              refine lv_cvt (y := 1) ((vs0 w.1 lt_k).trans (congrArg nI (if_pos ko))) ?_
              refine lv_iconst (v := 1) hx hb dL_fits_310 (by decide) ?_
              refine lv_icmp_eq (tgt := 322) hx hb dL_fits_311 (by decide) (fun _ => ?_) (fun c => absurd c (by decide))
              refine lv_iconst (v := 1) hx hb dL_fits_322 (by decide) ?_
              refine lv_goto (tgt := 327) hx hb dL_fits_323 (by decide) ?_
              refine lv_istore (lv' := [(9, .int 1), (13, .int (nI k)), (12, .int (nI (lsN (eC o) k))), (11, .int (nI (mxN (loadN (eC o)) k))), (10, .int (nI (su (oN (eC o)) k))), (8, .ref ma), (7, .ref la), (6, .int (mvF (eC o) (knj (eC o)))), (5, .int (nI (mxN (azN (eC o)) (knj (eC o))))), (4, .int (nI (su (mnN (eC o) 9) (knj (eC o))))), (3, .int (nI (su (azN (eC o)) (knj (eC o))))), (2, .int (nI (knj (eC o)))), (1, .int (nI (knv (eC o)))), (0, .ref (adE d))]) hx hb dL_fits_327 hl (by decide) rfl (fun ls hl => ?_)
              exact K329 ls (lv_sub hl [1, 2, 3, 4, 0, 5, 6, 7, 8, 9, 10, 11, 12, 13] rfl)
            · skip
              refine lv_cvt (y := 0) ((vs0 w.1 lt_k).trans (congrArg nI (if_neg ko))) ?_
              refine lv_iconst (v := 1) hx hb dL_fits_310 (by decide) ?_
              refine lv_icmp_eq (tgt := 322) hx hb dL_fits_311 (by decide) (fun c => absurd c (by decide)) (fun _ => ?_)
              refine lv_aload hx hb dL_fits_314 (lv_at hl 5 rfl) ?_
              refine lv_iload hx hb dL_fits_316 (lv_at hl 0 rfl) ?_
              refine iald_n hx hb hK hP 0 rfl k rfl k6 (by decide) dL_fits_318 ?_
              refine lv_cvt (y := 0) ((show _ = nI (manyN (eC o) k) from rfl).trans (congrArg nI (many_shut w.1 (by omega) (Or.inr ko)))) ?_
              refine lv_if_ne (tgt := 326) hx hb dL_fits_319 (by decide) (fun c => absurd c (by decide)) (fun _ => ?_)
              refine lv_iconst (v := 1) hx hb dL_fits_322 (by decide) ?_
              refine lv_goto (tgt := 327) hx hb dL_fits_323 (by decide) ?_
              refine lv_istore (lv' := [(9, .int 1), (13, .int (nI k)), (12, .int (nI (lsN (eC o) k))), (11, .int (nI (mxN (loadN (eC o)) k))), (10, .int (nI (su (oN (eC o)) k))), (8, .ref ma), (7, .ref la), (6, .int (mvF (eC o) (knj (eC o)))), (5, .int (nI (mxN (azN (eC o)) (knj (eC o))))), (4, .int (nI (su (mnN (eC o) 9) (knj (eC o))))), (3, .int (nI (su (azN (eC o)) (knj (eC o))))), (2, .int (nI (knj (eC o)))), (1, .int (nI (knv (eC o)))), (0, .ref (adE d))]) hx hb dL_fits_327 hl (by decide) rfl (fun ls hl => ?_)
              exact K329 ls (lv_sub hl [1, 2, 3, 4, 0, 5, 6, 7, 8, 9, 10, 11, 12, 13] rfl)
      exact K3 (knv (eC o)) 0 (by omega) H locs hP hD hS _ hl
    | succ n2 ih_j =>
      intro j hi_j H locs hP hD hS ls hl
      have lt_j : j < knj (eC o) := by omega
      refine lv_iload hx hb dL_fits_41 (lv_at hl 0 rfl) ?_
      refine lv_iload_n hx hb dL_fits_43 rfl (lv_at hl 8 rfl) ?_
      refine lv_icmp_ge (tgt := 220) hx hb dL_fits_44 (by decide) (fun c => False.elim (nI_ge lt_j (by omega) c)) (fun _ => ?_)
      refine lv_iload hx hb dL_fits_47 (lv_at hl 1 rfl) ?_
      refine lv_if_eq (tgt := 220) hx hb dL_fits_49 (by decide) (fun c => absurd c (by decide)) (fun _ => ?_)
      refine lv_aload_n hx hb dL_fits_52 rfl (lv_at hl 10 rfl) ?_
      refine lv_iload hx hb dL_fits_53 (lv_at hl 0 rfl) ?_
      refine lv_iconst (v := 2) hx hb dL_fits_55 (by decide) ?_
      refine xpV (rest := []) ⟨hx, hb, hml, hown, hts⟩ (x_job l G cI cQ d o hE (nI j) 2) (cwV 2 hts gL_fits_X4_job rfl rfl rfl cd_X4_job ⟨Nat.le_of_ble_eq_true rfl, Nat.le_of_ble_eq_true rfl⟩) hK (P_tl (P_tl hP)) rfl hl.1 rfl (Nat.le_of_ble_eq_true rfl) dL_fits_56 ⟨Nat.le_of_ble_eq_true rfl, Nat.le_of_ble_eq_true rfl⟩ ?_
      by_cases p9 : pN (eC o) j = 9
      · skip
        refine lv_cvt (y := (-9)) ((vj2 w.1 lt_j).trans ((cp9 w.1 lt_j).mpr p9)) ?_
        refine lv_istore (lv' := [(11, .int (-9)), (10, .int (nI j)), (9, .int 1), (8, .ref ma), (7, .ref la), (6, .int (mvF (eC o) j)), (5, .int (nI (mxN (azN (eC o)) j))), (4, .int (nI (su (mnN (eC o) 9) j))), (3, .int (nI (su (azN (eC o)) j))), (2, .int (nI (knj (eC o)))), (1, .int (nI (knv (eC o)))), (0, .ref (adE d))]) hx hb dL_fits_59 hl (by decide) rfl (fun ls hl => ?_)
        refine lv_iload hx hb dL_fits_61 (lv_at hl 0 rfl) ?_
        refine lv_bipush (v := (-9)) hx hb dL_fits_63 (by decide) ?_
        refine lv_icmp_eq (tgt := 106) hx hb dL_fits_65 (by decide) (fun _ => ?_) (fun c => False.elim (c rfl))
        refine lv_iconst (v := 1) hx hb dL_fits_106 (by decide) ?_
        refine lv_goto (tgt := 111) hx hb dL_fits_107 (by decide) ?_
        refine lv_istore (lv' := [(9, .int 1), (11, .int (-9)), (10, .int (nI j)), (8, .ref ma), (7, .ref la), (6, .int (mvF (eC o) j)), (5, .int (nI (mxN (azN (eC o)) j))), (4, .int (nI (su (mnN (eC o) 9) j))), (3, .int (nI (su (azN (eC o)) j))), (2, .int (nI (knj (eC o)))), (1, .int (nI (knv (eC o)))), (0, .ref (adE d))]) hx hb dL_fits_111 hl (by decide) rfl (fun ls hl => ?_)
        refine lv_iload hx hb dL_fits_113 (lv_at hl 7 rfl) ?_
        refine lv_iload hx hb dL_fits_115 (lv_at hl 1 rfl) ?_
        refine lv_bipush (v := (-9)) hx hb dL_fits_117 (by decide) ?_
        refine lv_icmp_ne (tgt := 126) hx hb dL_fits_119 (by decide) (fun c => False.elim (c rfl)) (fun _ => ?_)
        refine lv_iconst (v := 1) hx hb dL_fits_122 (by decide) ?_
        refine lv_goto (tgt := 127) hx hb dL_fits_123 (by decide) ?_
        refine lv_iadd hx hb dL_fits_127 ?_
        refine lv_cvt (y := (nI (su (mnN (eC o) 9) (j + 1)))) ((nI_1 _).trans (congrArg nI (by show _ = su (mnN (eC o) 9) j + mnN (eC o) 9 j; rw [show mnN (eC o) 9 j = 1 from if_pos p9]))) ?_
        refine lv_istore (lv' := [(4, .int (nI (su (mnN (eC o) 9) (j + 1)))), (9, .int 1), (11, .int (-9)), (10, .int (nI j)), (8, .ref ma), (7, .ref la), (6, .int (mvF (eC o) j)), (5, .int (nI (mxN (azN (eC o)) j))), (3, .int (nI (su (azN (eC o)) j))), (2, .int (nI (knj (eC o)))), (1, .int (nI (knv (eC o)))), (0, .ref (adE d))]) hx hb dL_fits_128 hl (by decide) rfl (fun ls hl => ?_)
        refine lv_iload hx hb dL_fits_130 (lv_at hl 6 rfl) ?_
        refine lv_aload_n hx hb dL_fits_132 rfl (lv_at hl 11 rfl) ?_
        refine lv_iload hx hb dL_fits_133 (lv_at hl 3 rfl) ?_
        refine lv_iconst (v := 3) hx hb dL_fits_135 (by decide) ?_
        refine xpV (rest := [.int (mvF (eC o) j)]) ⟨hx, hb, hml, hown, hts⟩ (x_job l G cI cQ d o hE (nI j) 3) (cwV 2 hts gL_fits_X4_job rfl rfl rfl cd_X4_job ⟨Nat.le_of_ble_eq_true rfl, Nat.le_of_ble_eq_true rfl⟩) hK (P_tl (P_tl hP)) rfl hl.1 rfl (Nat.le_of_ble_eq_true rfl) dL_fits_136 ⟨Nat.le_of_ble_eq_true rfl, Nat.le_of_ble_eq_true rfl⟩ ?_
        refine lv_cvt (y := (kmv (eC o) j)) (vj3 w.1 lt_j) ?_
        refine lv_iadd hx hb dL_fits_139 ?_
        refine lv_cvt (y := (mvF (eC o) (j + 1))) (rfl) ?_
        refine lv_istore (lv' := [(6, .int (mvF (eC o) (j + 1))), (4, .int (nI (su (mnN (eC o) 9) (j + 1)))), (9, .int 1), (11, .int (-9)), (10, .int (nI j)), (8, .ref ma), (7, .ref la), (5, .int (nI (mxN (azN (eC o)) j))), (3, .int (nI (su (azN (eC o)) j))), (2, .int (nI (knj (eC o)))), (1, .int (nI (knv (eC o)))), (0, .ref (adE d))]) hx hb dL_fits_140 hl (by decide) rfl (fun ls hl => ?_)
        refine lv_iload hx hb dL_fits_142 (lv_at hl 2 rfl) ?_
        refine lv_if_eq (tgt := 214) hx hb dL_fits_144 (by decide) (fun c => absurd c (by decide)) (fun _ => ?_)
        refine lv_iload hx hb dL_fits_147 (lv_at hl 3 rfl) ?_
        refine lv_bipush (v := (-9)) hx hb dL_fits_149 (by decide) ?_
        refine lv_icmp_eq (tgt := 214) hx hb dL_fits_151 (by decide) (fun _ => ?_) (fun c => False.elim (c rfl))
        refine lv_iinc (v := (nI (j + 1))) (lv' := [(10, .int (nI (j + 1))), (6, .int (mvF (eC o) (j + 1))), (4, .int (nI (su (mnN (eC o) 9) (j + 1)))), (9, .int 1), (11, .int (-9)), (8, .ref ma), (7, .ref la), (5, .int (nI (mxN (azN (eC o)) j))), (3, .int (nI (su (azN (eC o)) j))), (2, .int (nI (knj (eC o)))), (1, .int (nI (knv (eC o)))), (0, .ref (adE d))]) hx hb dL_fits_214 hl (k := 4) rfl (nI_1 j) (by decide) rfl (fun ls hl => ?_)
        refine lv_goto (tgt := 41) hx hb dL_fits_217 (by decide) ?_
        have e3 : su (azN (eC o)) (j + 1) = su (azN (eC o)) j := by show su (azN (eC o)) j + azN (eC o) j = _; rw [show azN (eC o) j = 0 from if_pos p9]; rfl
        have e5 : mxN (azN (eC o)) (j + 1) = mxN (azN (eC o)) j := by show max (mxN (azN (eC o)) j) (azN (eC o) j) = _; rw [show azN (eC o) j = 0 from if_pos p9]; exact Nat.max_eq_left (Nat.zero_le _)
        exact ih_j (j + 1) (by omega) H locs (row_P hP (row_m9 p9) (row_l9 p9)) (row_D hD) hS ls (by rw [e3, e5]; exact (lv_sub hl [0, 3, 5, 6, 1, 7, 2, 8, 9, 10, 11] rfl))
      · skip
        have p6 := ci_p6 w.1 lt_j p9
        have zB := ci_z2 w.1 lt_j
        refine lv_cvt (y := (nI (pN (eC o) j))) ((vj2 w.1 lt_j).trans (cpl w.1 lt_j p9)) ?_
        refine lv_istore (lv' := [(11, .int (nI (pN (eC o) j))), (10, .int (nI j)), (9, .int 1), (8, .ref ma), (7, .ref la), (6, .int (mvF (eC o) j)), (5, .int (nI (mxN (azN (eC o)) j))), (4, .int (nI (su (mnN (eC o) 9) j))), (3, .int (nI (su (azN (eC o)) j))), (2, .int (nI (knj (eC o)))), (1, .int (nI (knv (eC o)))), (0, .ref (adE d))]) hx hb dL_fits_59 hl (by decide) rfl (fun ls hl => ?_)
        refine lv_iload hx hb dL_fits_61 (lv_at hl 0 rfl) ?_
        refine lv_bipush (v := (-9)) hx hb dL_fits_63 (by decide) ?_
        refine lv_icmp_eq (tgt := 106) hx hb dL_fits_65 (by decide) (fun c => False.elim (ne9 (by omega) c)) (fun _ => ?_)
        refine lv_iload hx hb dL_fits_68 (lv_at hl 0 rfl) ?_
        refine lv_if_lt (tgt := 110) hx hb dL_fits_70 (by decide) (fun c => False.elim (nI_pos (by omega) c)) (fun _ => ?_)
        refine lv_iload hx hb dL_fits_73 (lv_at hl 0 rfl) ?_
        refine lv_iload_n hx hb dL_fits_75 rfl (lv_at hl 10 rfl) ?_
        refine lv_icmp_ge (tgt := 110) hx hb dL_fits_76 (by decide) (fun c => False.elim (nI_ge p6.1 (by omega) c)) (fun _ => ?_)
        refine lv_aload_n hx hb dL_fits_79 rfl (lv_at hl 11 rfl) ?_
        refine lv_iload hx hb dL_fits_80 (lv_at hl 0 rfl) ?_
        refine lv_iconst (v := 0) hx hb dL_fits_82 (by decide) ?_
        refine xpV (rest := []) ⟨hx, hb, hml, hown, hts⟩ (x_server l G cI cQ d o hE (nI (pN (eC o) j)) 0) (cwV 2 hts gL_fits_X4_server rfl rfl rfl cd_X4_server ⟨Nat.le_of_ble_eq_true rfl, Nat.le_of_ble_eq_true rfl⟩) hK (P_tl (P_tl hP)) rfl hl.1 rfl (Nat.le_of_ble_eq_true rfl) dL_fits_83 ⟨Nat.le_of_ble_eq_true rfl, Nat.le_of_ble_eq_true rfl⟩ ?_
        refine lv_cvt (y := 1) ((vs0 w.1 p6.1).trans (congrArg nI (if_pos (ci_op w.1 lt_j p9)))) ?_
        refine lv_iconst (v := 1) hx hb dL_fits_86 (by decide) ?_
        refine lv_icmp_ne (tgt := 110) hx hb dL_fits_87 (by decide) (fun c => absurd c (by decide)) (fun _ => ?_)
        refine lv_aload_n hx hb dL_fits_90 rfl (lv_at hl 11 rfl) ?_
        refine lv_iload hx hb dL_fits_91 (lv_at hl 0 rfl) ?_
        refine lv_iconst (v := 4) hx hb dL_fits_93 (by decide) ?_
        refine xpV (rest := []) ⟨hx, hb, hml, hown, hts⟩ (x_server l G cI cQ d o hE (nI (pN (eC o) j)) 4) (cwV 2 hts gL_fits_X4_server rfl rfl rfl cd_X4_server ⟨Nat.le_of_ble_eq_true rfl, Nat.le_of_ble_eq_true rfl⟩) hK (P_tl (P_tl hP)) rfl hl.1 rfl (Nat.le_of_ble_eq_true rfl) dL_fits_94 ⟨Nat.le_of_ble_eq_true rfl, Nat.le_of_ble_eq_true rfl⟩ ?_
        refine lv_cvt (y := (sOn (eC o) (nI (pN (eC o) j)))) (vs4 w.1 p6.1) ?_
        refine lv_iload hx hb dL_fits_97 (lv_at hl 1 rfl) ?_
        refine lv_ishr hx hb dL_fits_99 ?_
        refine lv_iconst (v := 1) hx hb dL_fits_100 (by decide) ?_
        refine lv_iand hx hb dL_fits_101 ?_
        refine lv_cvt (y := 1) ((bit_on (k := j) (by omega)).mpr ((on_bt w.1 p6.2 (i := j) (by omega) _ (Nat.le_refl _)).trans (by rw [decide_eq_true lt_j, decide_eq_true rfl]; rfl))) ?_
        refine lv_iconst (v := 1) hx hb dL_fits_102 (by decide) ?_
        refine lv_icmp_ne (tgt := 110) hx hb dL_fits_103 (by decide) (fun c => absurd c (by decide)) (fun _ => ?_)
        refine lv_iconst (v := 1) hx hb dL_fits_106 (by decide) ?_
        refine lv_goto (tgt := 111) hx hb dL_fits_107 (by decide) ?_
        refine lv_istore (lv' := [(9, .int 1), (11, .int (nI (pN (eC o) j))), (10, .int (nI j)), (8, .ref ma), (7, .ref la), (6, .int (mvF (eC o) j)), (5, .int (nI (mxN (azN (eC o)) j))), (4, .int (nI (su (mnN (eC o) 9) j))), (3, .int (nI (su (azN (eC o)) j))), (2, .int (nI (knj (eC o)))), (1, .int (nI (knv (eC o)))), (0, .ref (adE d))]) hx hb dL_fits_111 hl (by decide) rfl (fun ls hl => ?_)
        refine lv_iload hx hb dL_fits_113 (lv_at hl 7 rfl) ?_
        refine lv_iload hx hb dL_fits_115 (lv_at hl 1 rfl) ?_
        refine lv_bipush (v := (-9)) hx hb dL_fits_117 (by decide) ?_
        refine lv_icmp_ne (tgt := 126) hx hb dL_fits_119 (by decide) (fun _ => ?_) (fun c => False.elim (ne9 (by omega) c))
        refine lv_iconst (v := 0) hx hb dL_fits_126 (by decide) ?_
        refine lv_iadd hx hb dL_fits_127 ?_
        refine lv_cvt (y := (nI (su (mnN (eC o) 9) (j + 1)))) ((Int32.add_zero _).trans (congrArg nI (by show _ = su (mnN (eC o) 9) j + mnN (eC o) 9 j; rw [show mnN (eC o) 9 j = 0 from if_neg p9]; rfl))) ?_
        refine lv_istore (lv' := [(4, .int (nI (su (mnN (eC o) 9) (j + 1)))), (9, .int 1), (11, .int (nI (pN (eC o) j))), (10, .int (nI j)), (8, .ref ma), (7, .ref la), (6, .int (mvF (eC o) j)), (5, .int (nI (mxN (azN (eC o)) j))), (3, .int (nI (su (azN (eC o)) j))), (2, .int (nI (knj (eC o)))), (1, .int (nI (knv (eC o)))), (0, .ref (adE d))]) hx hb dL_fits_128 hl (by decide) rfl (fun ls hl => ?_)
        refine lv_iload hx hb dL_fits_130 (lv_at hl 6 rfl) ?_
        refine lv_aload_n hx hb dL_fits_132 rfl (lv_at hl 11 rfl) ?_
        refine lv_iload hx hb dL_fits_133 (lv_at hl 3 rfl) ?_
        refine lv_iconst (v := 3) hx hb dL_fits_135 (by decide) ?_
        refine xpV (rest := [.int (mvF (eC o) j)]) ⟨hx, hb, hml, hown, hts⟩ (x_job l G cI cQ d o hE (nI j) 3) (cwV 2 hts gL_fits_X4_job rfl rfl rfl cd_X4_job ⟨Nat.le_of_ble_eq_true rfl, Nat.le_of_ble_eq_true rfl⟩) hK (P_tl (P_tl hP)) rfl hl.1 rfl (Nat.le_of_ble_eq_true rfl) dL_fits_136 ⟨Nat.le_of_ble_eq_true rfl, Nat.le_of_ble_eq_true rfl⟩ ?_
        refine lv_cvt (y := (kmv (eC o) j)) (vj3 w.1 lt_j) ?_
        refine lv_iadd hx hb dL_fits_139 ?_
        refine lv_cvt (y := (mvF (eC o) (j + 1))) (rfl) ?_
        refine lv_istore (lv' := [(6, .int (mvF (eC o) (j + 1))), (4, .int (nI (su (mnN (eC o) 9) (j + 1)))), (9, .int 1), (11, .int (nI (pN (eC o) j))), (10, .int (nI j)), (8, .ref ma), (7, .ref la), (5, .int (nI (mxN (azN (eC o)) j))), (3, .int (nI (su (azN (eC o)) j))), (2, .int (nI (knj (eC o)))), (1, .int (nI (knv (eC o)))), (0, .ref (adE d))]) hx hb dL_fits_140 hl (by decide) rfl (fun ls hl => ?_)
        refine lv_iload hx hb dL_fits_142 (lv_at hl 2 rfl) ?_
        refine lv_if_eq (tgt := 214) hx hb dL_fits_144 (by decide) (fun c => absurd c (by decide)) (fun _ => ?_)
        refine lv_iload hx hb dL_fits_147 (lv_at hl 3 rfl) ?_
        refine lv_bipush (v := (-9)) hx hb dL_fits_149 (by decide) ?_
        refine lv_icmp_eq (tgt := 214) hx hb dL_fits_151 (by decide) (fun c => False.elim (ne9 (by omega) c)) (fun _ => ?_)
        refine lv_aload hx hb dL_fits_154 (lv_at hl 6 rfl) ?_
        refine lv_iload hx hb dL_fits_156 (lv_at hl 3 rfl) ?_
        refine lv_dup2_11 hx hb dL_fits_158 rfl rfl ?_
        refine iald_n hx hb hK hP 1 rfl (pN (eC o) j) rfl p6.2 (by decide) dL_fits_159 ?_
        refine lv_cvt (y := (nI (su (lzN (eC o) (pN (eC o) j)) j))) (rfl) ?_
        refine lv_aload_n hx hb dL_fits_160 rfl (lv_at hl 11 rfl) ?_
        refine lv_iload hx hb dL_fits_161 (lv_at hl 4 rfl) ?_
        refine lv_iconst (v := 0) hx hb dL_fits_163 (by decide) ?_
        refine xpV (rest := [.int (nI (su (lzN (eC o) (pN (eC o) j)) j)), .int (nI (pN (eC o) j)), .ref la]) ⟨hx, hb, hml, hown, hts⟩ (x_job l G cI cQ d o hE (nI j) 0) (cwV 2 hts gL_fits_X4_job rfl rfl rfl cd_X4_job ⟨Nat.le_of_ble_eq_true rfl, Nat.le_of_ble_eq_true rfl⟩) hK (P_tl (P_tl hP)) rfl hl.1 rfl (Nat.le_of_ble_eq_true rfl) dL_fits_164 ⟨Nat.le_of_ble_eq_true rfl, Nat.le_of_ble_eq_true rfl⟩ ?_
        refine lv_cvt (y := (nI (zN (eC o) j))) (vj0 w.1 lt_j) ?_
        refine lv_iadd hx hb dL_fits_167 ?_
        refine iast_n hx hb hK hP hD hS 1 rfl (pN (eC o) j) rfl p6.2 (by decide) dL_fits_168 (fun H locs hP hD hS => ?_)
        have hP : va_P G vwCl ((ma, .inl (cI, 6, .inl ((fun x => nI (su (mnN (eC o) x) j))))) :: (la, .inl (cI, 6, .inl ((upd (fun x => nI (su (lzN (eC o) x) j)) (pN (eC o) j) ((nI (su (lzN (eC o) (pN (eC o) j)) j)) + (nI (zN (eC o) j))))))) :: XW cI cQ d o) H := hP
        have hD : va_D A ((ma, .inl (cI, 6, .inl ((fun x => nI (su (mnN (eC o) x) j))))) :: (la, .inl (cI, 6, .inl ((upd (fun x => nI (su (lzN (eC o) x) j)) (pN (eC o) j) ((nI (su (lzN (eC o) (pN (eC o) j)) j)) + (nI (zN (eC o) j))))))) :: XW cI cQ d o) := hD
        refine lv_aload hx hb dL_fits_169 (lv_at hl 5 rfl) ?_
        refine lv_iload hx hb dL_fits_171 (lv_at hl 3 rfl) ?_
        refine lv_dup2_11 hx hb dL_fits_173 rfl rfl ?_
        refine iald_n hx hb hK hP 0 rfl (pN (eC o) j) rfl p6.2 (by decide) dL_fits_174 ?_
        refine lv_cvt (y := (nI (su (mnN (eC o) (pN (eC o) j)) j))) (rfl) ?_
        refine lv_iconst (v := 1) hx hb dL_fits_175 (by decide) ?_
        refine lv_iadd hx hb dL_fits_176 ?_
        refine iast_n hx hb hK hP hD hS 0 rfl (pN (eC o) j) rfl p6.2 (by decide) dL_fits_177 (fun H locs hP hD hS => ?_)
        have hP : va_P G vwCl ((ma, .inl (cI, 6, .inl ((upd (fun x => nI (su (mnN (eC o) x) j)) (pN (eC o) j) ((nI (su (mnN (eC o) (pN (eC o) j)) j)) + 1))))) :: (la, .inl (cI, 6, .inl ((upd (fun x => nI (su (lzN (eC o) x) j)) (pN (eC o) j) ((nI (su (lzN (eC o) (pN (eC o) j)) j)) + (nI (zN (eC o) j))))))) :: XW cI cQ d o) H := hP
        have hD : va_D A ((ma, .inl (cI, 6, .inl ((upd (fun x => nI (su (mnN (eC o) x) j)) (pN (eC o) j) ((nI (su (mnN (eC o) (pN (eC o) j)) j)) + 1))))) :: (la, .inl (cI, 6, .inl ((upd (fun x => nI (su (lzN (eC o) x) j)) (pN (eC o) j) ((nI (su (lzN (eC o) (pN (eC o) j)) j)) + (nI (zN (eC o) j))))))) :: XW cI cQ d o) := hD
        refine lv_iload_n hx hb dL_fits_178 rfl (lv_at hl 8 rfl) ?_
        refine lv_aload_n hx hb dL_fits_179 rfl (lv_at hl 11 rfl) ?_
        refine lv_iload hx hb dL_fits_180 (lv_at hl 4 rfl) ?_
        refine lv_iconst (v := 0) hx hb dL_fits_182 (by decide) ?_
        refine xpV (rest := [.int (nI (su (azN (eC o)) j))]) ⟨hx, hb, hml, hown, hts⟩ (x_job l G cI cQ d o hE (nI j) 0) (cwV 2 hts gL_fits_X4_job rfl rfl rfl cd_X4_job ⟨Nat.le_of_ble_eq_true rfl, Nat.le_of_ble_eq_true rfl⟩) hK (P_tl (P_tl hP)) rfl hl.1 rfl (Nat.le_of_ble_eq_true rfl) dL_fits_183 ⟨Nat.le_of_ble_eq_true rfl, Nat.le_of_ble_eq_true rfl⟩ ?_
        refine lv_cvt (y := (nI (zN (eC o) j))) (vj0 w.1 lt_j) ?_
        refine lv_iadd hx hb dL_fits_186 ?_
        refine lv_cvt (y := (nI (su (azN (eC o)) (j + 1)))) ((nI_add _ _).trans (congrArg nI (by show _ = su (azN (eC o)) j + azN (eC o) j; rw [show azN (eC o) j = zN (eC o) j from if_neg p9]))) ?_
        refine lv_istore_n (lv' := [(3, .int (nI (su (azN (eC o)) (j + 1)))), (6, .int (mvF (eC o) (j + 1))), (4, .int (nI (su (mnN (eC o) 9) (j + 1)))), (9, .int 1), (11, .int (nI (pN (eC o) j))), (10, .int (nI j)), (8, .ref ma), (7, .ref la), (5, .int (nI (mxN (azN (eC o)) j))), (2, .int (nI (knj (eC o)))), (1, .int (nI (knv (eC o)))), (0, .ref (adE d))]) hx hb dL_fits_187 rfl hl (by decide) rfl (fun ls hl => ?_)
        refine lv_aload_n hx hb dL_fits_188 rfl (lv_at hl 11 rfl) ?_
        refine lv_iload hx hb dL_fits_189 (lv_at hl 5 rfl) ?_
        refine lv_iconst (v := 0) hx hb dL_fits_191 (by decide) ?_
        refine xpV (rest := []) ⟨hx, hb, hml, hown, hts⟩ (x_job l G cI cQ d o hE (nI j) 0) (cwV 2 hts gL_fits_X4_job rfl rfl rfl cd_X4_job ⟨Nat.le_of_ble_eq_true rfl, Nat.le_of_ble_eq_true rfl⟩) hK (P_tl (P_tl hP)) rfl hl.1 rfl (Nat.le_of_ble_eq_true rfl) dL_fits_192 ⟨Nat.le_of_ble_eq_true rfl, Nat.le_of_ble_eq_true rfl⟩ ?_
        refine lv_cvt (y := (nI (zN (eC o) j))) (vj0 w.1 lt_j) ?_
        refine lv_iload hx hb dL_fits_195 (lv_at hl 8 rfl) ?_
        refine lv_icmp_le (tgt := 210) hx hb dL_fits_197 (by decide) (fun c197 => ?_) (fun c197 => ?_)
        · skip
          refine lv_iload hx hb dL_fits_210 (lv_at hl 8 rfl) ?_
          have mB : mxN (azN (eC o)) j ≤ 1000 := mxN_le (fun q hq => az_le w.1 (by omega))
          have ez : azN (eC o) j = zN (eC o) j := if_neg p9
          refine lv_cvt (y := (nI (mxN (azN (eC o)) (j + 1)))) (congrArg nI (by show _ = max (mxN (azN (eC o)) j) (azN (eC o) j); rw [ez]; exact (Nat.max_eq_left ((nI_leI (by omega) (by omega)).mp c197)).symm)) ?_
          refine lv_istore (lv' := [(5, .int (nI (mxN (azN (eC o)) (j + 1)))), (3, .int (nI (su (azN (eC o)) (j + 1)))), (6, .int (mvF (eC o) (j + 1))), (4, .int (nI (su (mnN (eC o) 9) (j + 1)))), (9, .int 1), (11, .int (nI (pN (eC o) j))), (10, .int (nI j)), (8, .ref ma), (7, .ref la), (2, .int (nI (knj (eC o)))), (1, .int (nI (knv (eC o)))), (0, .ref (adE d))]) hx hb dL_fits_212 hl (by decide) rfl (fun ls hl => ?_)
          refine lv_iinc (v := (nI (j + 1))) (lv' := [(10, .int (nI (j + 1))), (5, .int (nI (mxN (azN (eC o)) (j + 1)))), (3, .int (nI (su (azN (eC o)) (j + 1)))), (6, .int (mvF (eC o) (j + 1))), (4, .int (nI (su (mnN (eC o) 9) (j + 1)))), (9, .int 1), (11, .int (nI (pN (eC o) j))), (8, .ref ma), (7, .ref la), (2, .int (nI (knj (eC o)))), (1, .int (nI (knv (eC o)))), (0, .ref (adE d))]) hx hb dL_fits_214 hl (k := 6) rfl (nI_1 j) (by decide) rfl (fun ls hl => ?_)
          refine lv_goto (tgt := 41) hx hb dL_fits_217 (by decide) ?_
          exact ih_j (j + 1) (by omega) H locs (row_P hP (fun x _ => row_m (eC o) j x) (fun x _ => row_l (eC o) j x)) (row_D hD) hS ls (lv_sub hl [0, 5, 7, 8, 3, 1, 4, 2, 9, 10, 11] rfl)
        · skip
          refine lv_aload_n hx hb dL_fits_200 rfl (lv_at hl 11 rfl) ?_
          refine lv_iload hx hb dL_fits_201 (lv_at hl 5 rfl) ?_
          refine lv_iconst (v := 0) hx hb dL_fits_203 (by decide) ?_
          refine xpV (rest := []) ⟨hx, hb, hml, hown, hts⟩ (x_job l G cI cQ d o hE (nI j) 0) (cwV 2 hts gL_fits_X4_job rfl rfl rfl cd_X4_job ⟨Nat.le_of_ble_eq_true rfl, Nat.le_of_ble_eq_true rfl⟩) hK (P_tl (P_tl hP)) rfl hl.1 rfl (Nat.le_of_ble_eq_true rfl) dL_fits_204 ⟨Nat.le_of_ble_eq_true rfl, Nat.le_of_ble_eq_true rfl⟩ ?_
          refine lv_cvt (y := (nI (zN (eC o) j))) (vj0 w.1 lt_j) ?_
          refine lv_goto (tgt := 212) hx hb dL_fits_207 (by decide) ?_
          have mB : mxN (azN (eC o)) j ≤ 1000 := mxN_le (fun q hq => az_le w.1 (by omega))
          have ez : azN (eC o) j = zN (eC o) j := if_neg p9
          refine lv_cvt (y := (nI (mxN (azN (eC o)) (j + 1)))) (congrArg nI (by show _ = max (mxN (azN (eC o)) j) (azN (eC o) j); rw [ez]; exact (Nat.max_eq_right (Nat.le_of_lt (Nat.lt_of_not_le (fun q => c197 ((nI_leI (by omega) (by omega)).mpr q))))).symm)) ?_
          refine lv_istore (lv' := [(5, .int (nI (mxN (azN (eC o)) (j + 1)))), (3, .int (nI (su (azN (eC o)) (j + 1)))), (6, .int (mvF (eC o) (j + 1))), (4, .int (nI (su (mnN (eC o) 9) (j + 1)))), (9, .int 1), (11, .int (nI (pN (eC o) j))), (10, .int (nI j)), (8, .ref ma), (7, .ref la), (2, .int (nI (knj (eC o)))), (1, .int (nI (knv (eC o)))), (0, .ref (adE d))]) hx hb dL_fits_212 hl (by decide) rfl (fun ls hl => ?_)
          refine lv_iinc (v := (nI (j + 1))) (lv' := [(10, .int (nI (j + 1))), (5, .int (nI (mxN (azN (eC o)) (j + 1)))), (3, .int (nI (su (azN (eC o)) (j + 1)))), (6, .int (mvF (eC o) (j + 1))), (4, .int (nI (su (mnN (eC o) 9) (j + 1)))), (9, .int 1), (11, .int (nI (pN (eC o) j))), (8, .ref ma), (7, .ref la), (2, .int (nI (knj (eC o)))), (1, .int (nI (knv (eC o)))), (0, .ref (adE d))]) hx hb dL_fits_214 hl (k := 6) rfl (nI_1 j) (by decide) rfl (fun ls hl => ?_)
          refine lv_goto (tgt := 41) hx hb dL_fits_217 (by decide) ?_
          exact ih_j (j + 1) (by omega) H locs (row_P hP (fun x _ => row_m (eC o) j x) (fun x _ => row_l (eC o) j x)) (row_D hD) hS ls (lv_sub hl [0, 5, 7, 8, 3, 1, 4, 2, 9, 10, 11] rfl)
  exact K1 (knj (eC o)) 0 (by omega) H locs hP hD hS _ hl
theorem cd_L_fits : yL_fits.cls = RL ∧ yL_fits.cls ≠ "java/lang/invoke/MethodHandle" ∧ yL_fits.cls ≠ "java/lang/invoke/VarHandle" ∧ (parseMethodDescriptor yL_fits.desc).map (fun d => d.parameters.length) = some 1 := by decide +kernel
