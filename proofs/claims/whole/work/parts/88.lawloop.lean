/-! ===== the law's loop ===== -/
theorem nI_4 (a : Nat) : nI a + 4 = nI (a + 4) := nI_add a 4
theorem gt_f {i L : Nat} (hi : i < 2 ^ 30) (hL : L < 2 ^ 30) (h : ¬ nI L - nI 4 < nI i) : i + 4 ≤ L := by
  rw [Int32.lt_iff_toInt_lt, pk_sub_toInt hL (by decide), nI_toInt (by omega)] at h
  omega
theorem gt_t {i L : Nat} (hi : i < 2 ^ 30) (hL : L < 2 ^ 30) (h : ¬ (i + 4 ≤ L)) : nI L - nI 4 < nI i := by
  rw [Int32.lt_iff_toInt_lt, pk_sub_toInt hL (by decide), nI_toInt (by omega)]
  omega
set_option maxHeartbeats 4000000 in
set_option maxRecDepth 100000 in
theorem law_loop {l : Launch} {p : Program} {e : Env} {s : State} {m : MethodId} {below : List Frame} {meth : Method} {c : Code} {bA L : Nat} {xs : Nat → Int32} {G : va_G} {cI cQ : ClassId} {eo : Nat} {n b t hq : Nat → Nat} {aH : Nat → Nat → Nat} {a : Nat} {g q : Nat → Nat} (hL : L ≤ 2048) (C0 : lw_At p s m meth c bA L xs) (hK : SF G cI cQ s) :
    ∀ (fu i : Nat), i ≤ L → L + 1 ≤ i + fu → ∀ (cn cb ct : CS) (v : HW) (x : SS) (y : PS) (z : MS) (H : Heap) (locs : List Loc), rR cn v y z → va_P G vwCl (fl (LW cI cQ eo n b t hq aH a g q cn cb ct v x y z)) H → va_D (lwA s) (fl (LW cI cQ eo n b t hq aH a g q cn cb ct v x y z)) → va_S (lwA s) s.heap H locs → ∀ (ls : Array Slot), lv_has ls 4 [(3, .int (nI i)), (2, .ref (q 0)), (1, .ref eo), (0, .ref bA)] → W p l e room_1 s m #[Value.ref bA] below meth c H locs 70 1936 (lw_Z below #[Value.ref bA] s) (F0 m 18 ls []) := by
  obtain ⟨hx, hb, hr, hml, hown, hts, hX, hbl, hlocks, hgv⟩ := id C0
  have hA : ∀ k : Nat, s.heap.size ≤ k → lwA s k := fun _ h => h
  have hbA : ¬ lwA s bA := Nat.not_le.mpr hbl
  intro fu
  induction fu with
  | zero => intro i h1 h2; exact absurd h2 (by omega)
  | succ fu ih =>
    intro i hi hin cn cb ct v x y z H locs hR hP hD hS ls hl
    refine lv_iload_n hx hb dL_law_18 rfl (lv_at hl 0 rfl) ?_
    refine lv_aload_n hx hb dL_law_19 rfl (lv_at hl 3 rfl) ?_
    refine va_slen hx hb hX hbl hbA hS dL_law_20 ?_
    refine lv_iconst (v := 4) hx hb dL_law_21 (by decide) ?_
    refine lv_isub hx hb dL_law_22 ?_
    refine lv_cvt (y := nI L - nI 4) rfl ?_
    refine lv_icmp_gt (tgt := 725) hx hb dL_law_23 (by decide) (fun c9 => ?_) (fun c9 => ?_)
    · refine lv_iconst (v := 1) hx hb dL_law_725 (by decide) ?_
      refine va_forget (fun q hq => hS.2.2 q hq) ?_
      refine W.widen (k := 600000) (n := 7302250) (by decide) (by decide) ?_
      exact lw_ret hx hb hr hlocks dL_law_726
    · have hi4 : i + 4 ≤ L := gt_f (by omega) (by omega) c9
      have KK : ∀ (cn cb ct : CS) (v : HW) (x : SS) (y : PS) (z : MS) (H : Heap) (locs : List Loc), rR cn v y z → va_P G vwCl (fl (LW cI cQ eo n b t hq aH a g q cn cb ct v x y z)) H → va_D (lwA s) (fl (LW cI cQ eo n b t hq aH a g q cn cb ct v x y z)) → va_S (lwA s) s.heap H locs → W p l e room_1 s m #[Value.ref bA] below meth c H locs 70 1936 (lw_Z below #[Value.ref bA] s) (F0 m 719 ls []) := by
        intro cn cb ct v x y z H locs hR hP hD hS
        refine lv_iinc (v := nI (i + 4)) (lv' := [(3, .int (nI (i + 4))), (2, .ref (q 0)), (1, .ref eo), (0, .ref bA)]) hx hb dL_law_719 hl (k := 0) rfl (nI_4 i) (by decide) rfl (fun ls hl => ?_)
        refine lv_goto (tgt := 18) hx hb dL_law_722 (by decide) ?_
        exact ih (i + 4) hi4 (by omega) cn cb ct v x y z H locs hR hP hD hS ls hl
      have h0 : vp_in (nI i) L := vp_in_nI (by omega) (by omega)
      refine lv_aload_n hx hb dL_law_26 rfl (lv_at hl 3 rfl) ?_
      refine lv_iload_n hx hb dL_law_27 rfl (lv_at hl 0 rfl) ?_
      refine va_sld hx hb hX hbl hbA hS h0 dL_law_28 ?_
      refine lv_bipush (v := 31) hx hb dL_law_29 (by decide) ?_
      refine lv_iand hx hb dL_law_31 ?_
      obtain ⟨j, hj, ej⟩ := pk_andE (xs (nI i).toNatClampNeg) (m := 31) 5 (by decide)
      rw [ej]
      clear ej
      match j, hj with
      | 0, _ => exact lv_tableIn (off := 108) (tgt := 140) hx hb dL_law_32 (by decide) (by decide) rfl (by decide) (law_addServer hL C0 hK hi4 hl KK hR hP hD hS)
      | 1, _ => exact lv_tableIn (off := 121) (tgt := 153) hx hb dL_law_32 (by decide) (by decide) rfl (by decide) (law_add hL C0 hK hi4 hl KK hR hP hD hS)
      | 2, _ => exact lv_tableIn (off := 164) (tgt := 196) hx hb dL_law_32 (by decide) (by decide) rfl (by decide) (law_finish hL C0 hK hi4 hl KK hR hP hD hS)
      | 3, _ => exact lv_tableIn (off := 187) (tgt := 219) hx hb dL_law_32 (by decide) (by decide) rfl (by decide) (law_setBudget hL C0 hK hi4 hl KK hR hP hD hS)
      | 4, _ => exact lv_tableIn (off := 210) (tgt := 242) hx hb dL_law_32 (by decide) (by decide) rfl (by decide) (law_setFactor hL C0 hK hi4 hl KK hR hP hD hS)
      | 5, _ => exact lv_tableIn (off := 233) (tgt := 265) hx hb dL_law_32 (by decide) (by decide) rfl (by decide) (law_move hL C0 hK hi4 hl KK hR hP hD hS)
      | 6, _ => exact lv_tableIn (off := 266) (tgt := 298) hx hb dL_law_32 (by decide) (by decide) rfl (by decide) (law_exchange hL C0 hK hi4 hl KK hR hP hD hS)
      | 7, _ => exact lv_tableIn (off := 299) (tgt := 331) hx hb dL_law_32 (by decide) (by decide) rfl (by decide) (law_ring hL C0 hK hi4 hl KK hR hP hD hS)
      | 8, _ => exact lv_tableIn (off := 342) (tgt := 374) hx hb dL_law_32 (by decide) (by decide) rfl (by decide) (law_even hL C0 hK hi4 hl KK hR hP hD hS)
      | 9, _ => exact lv_tableIn (off := 365) (tgt := 397) hx hb dL_law_32 (by decide) (by decide) rfl (by decide) (law_close hL C0 hK hi4 hl KK hR hP hD hS)
      | 10, _ => exact lv_tableIn (off := 388) (tgt := 420) hx hb dL_law_32 (by decide) (by decide) rfl (by decide) (law_open hL C0 hK hi4 hl KK hR hP hD hS)
      | 11, _ => exact lv_tableIn (off := 411) (tgt := 443) hx hb dL_law_32 (by decide) (by decide) rfl (by decide) (law_undo hL C0 hK hi4 hl KK hR hP hD hS)
      | 12, _ => exact lv_tableIn (off := 424) (tgt := 456) hx hb dL_law_32 (by decide) (by decide) rfl (by decide) (law_append hL C0 hK hi4 hl KK hR hP hD hS)
      | 13, _ => exact lv_tableIn (off := 447) (tgt := 479) hx hb dL_law_32 (by decide) (by decide) rfl (by decide) (law_clearText hL C0 hK hi4 hl KK hR hP hD hS)
      | 14, _ => exact lv_tableIn (off := 460) (tgt := 492) hx hb dL_law_32 (by decide) (by decide) rfl (by decide) (law_run hL C0 hK hi4 hl KK hR hP hD hS)
      | 15, _ => exact lv_tableIn (off := 473) (tgt := 505) hx hb dL_law_32 (by decide) (by decide) rfl (by decide) (law_count hL C0 hK hi4 hl KK hR hP hD hS)
      | 16, _ => exact lv_tableIn (off := 496) (tgt := 528) hx hb dL_law_32 (by decide) (by decide) rfl (by decide) (law_server hL C0 hK hi4 hl KK hR hP hD hS)
      | 17, _ => exact lv_tableIn (off := 529) (tgt := 561) hx hb dL_law_32 (by decide) (by decide) rfl (by decide) (law_job hL C0 hK hi4 hl KK hR hP hD hS)
      | 18, _ => exact lv_tableIn (off := 562) (tgt := 594) hx hb dL_law_32 (by decide) (by decide) rfl (by decide) (law_leaving hL C0 hK hi4 hl KK hR hP hD hS)
      | 19, _ => exact lv_tableIn (off := 595) (tgt := 627) hx hb dL_law_32 (by decide) (by decide) rfl (by decide) (law_step hL C0 hK hi4 hl KK hR hP hD hS)
      | 20, _ => exact lv_tableIn (off := 618) (tgt := 650) hx hb dL_law_32 (by decide) (by decide) rfl (by decide) (law_plan hL C0 hK hi4 hl KK hR hP hD hS)
      | 21, _ => exact lv_tableIn (off := 641) (tgt := 673) hx hb dL_law_32 (by decide) (by decide) rfl (by decide) (law_fewest hL C0 hK hi4 hl KK hR hP hD hS)
      | 22, _ => exact lv_tableIn (off := 664) (tgt := 696) hx hb dL_law_32 (by decide) (by decide) rfl (by decide) (law_without hL C0 hK hi4 hl KK hR hP hD hS)
      | 23, _ => exact lv_tableOut (tgt := 719) hx hb dL_law_32 (Or.inr (by decide)) (by decide) (KK _ _ _ _ _ _ _ _ _ hR hP hD hS)
      | 24, _ => exact lv_tableOut (tgt := 719) hx hb dL_law_32 (Or.inr (by decide)) (by decide) (KK _ _ _ _ _ _ _ _ _ hR hP hD hS)
      | 25, _ => exact lv_tableOut (tgt := 719) hx hb dL_law_32 (Or.inr (by decide)) (by decide) (KK _ _ _ _ _ _ _ _ _ hR hP hD hS)
      | 26, _ => exact lv_tableOut (tgt := 719) hx hb dL_law_32 (Or.inr (by decide)) (by decide) (KK _ _ _ _ _ _ _ _ _ hR hP hD hS)
      | 27, _ => exact lv_tableOut (tgt := 719) hx hb dL_law_32 (Or.inr (by decide)) (by decide) (KK _ _ _ _ _ _ _ _ _ hR hP hD hS)
      | 28, _ => exact lv_tableOut (tgt := 719) hx hb dL_law_32 (Or.inr (by decide)) (by decide) (KK _ _ _ _ _ _ _ _ _ hR hP hD hS)
      | 29, _ => exact lv_tableOut (tgt := 719) hx hb dL_law_32 (Or.inr (by decide)) (by decide) (KK _ _ _ _ _ _ _ _ _ hR hP hD hS)
      | 30, _ => exact lv_tableOut (tgt := 719) hx hb dL_law_32 (Or.inr (by decide)) (by decide) (KK _ _ _ _ _ _ _ _ _ hR hP hD hS)
      | 31, _ => exact lv_tableOut (tgt := 719) hx hb dL_law_32 (Or.inr (by decide)) (by decide) (KK _ _ _ _ _ _ _ _ _ hR hP hD hS)
      | k + 32, h => exact absurd h (by omega)
