/-! ===== the law ===== -/
theorem goodUp {ws : List Cond} (h : GoodIn wsL_law ws) : GoodIn lw_tbl ws := fun w hw => ⟨wsL_law_in w (h w hw).1, (h w hw).2⟩
abbrev LW (cI cQ : ClassId) (eo : Nat) (n b t hq : Nat → Nat) (aH : Nat → Nat → Nat) (a : Nat) (g q : Nat → Nat) (cn cb ct : CS) (v : HW) (x : SS) (y : PS) (z : MS) : List va_W := [(pgT cI g y), (evT eo n b t hq a g), (hwT cI cQ hq aH v), (stT cI a x), (clT cI n cn), (clT cI b cb), (clT cI t ct), (mdT cI q z)]
abbrev lwA (s : State) : Nat → Prop := fun k => s.heap.size ≤ k
set_option maxHeartbeats 4000000 in
set_option maxRecDepth 100000 in
theorem law_addServer {l : Launch} {p : Program} {e : Env} {s : State} {m : MethodId} {below : List Frame} {meth : Method} {c : Code} {Q : State → Prop} {bA L : Nat} {xs : Nat → Int32} {G : va_G} {cI cQ : ClassId} {eo : Nat} {n b t hq : Nat → Nat} {aH : Nat → Nat → Nat} {a : Nat} {g q : Nat → Nat} (hL : L ≤ 2048) (C0 : lw_At p s m meth c bA L xs) (hK : SF G cI cQ s) {i : Nat} (hi : i + 4 ≤ L) {ls : Array Slot} (hl : lv_has ls 4 [(3, .int (nI i)), (2, .ref (q 0)), (1, .ref eo), (0, .ref bA)])
    (KK : ∀ (cn cb ct : CS) (v : HW) (x : SS) (y : PS) (z : MS) (H : Heap) (locs : List Loc), rR cn v y z → va_P G vwCl (fl (LW cI cQ eo n b t hq aH a g q cn cb ct v x y z)) H → va_D (lwA s) (fl (LW cI cQ eo n b t hq aH a g q cn cb ct v x y z)) → va_S (lwA s) s.heap H locs → W p l e room_1 s m #[Value.ref bA] below meth c H locs 70 1936 Q (F0 m 719 ls []))
    {cn cb ct : CS} {v : HW} {x : SS} {y : PS} {z : MS} {H : Heap} {locs : List Loc} (hR : rR cn v y z) (hP : va_P G vwCl (fl (LW cI cQ eo n b t hq aH a g q cn cb ct v x y z)) H) (hD : va_D (lwA s) (fl (LW cI cQ eo n b t hq aH a g q cn cb ct v x y z))) (hS : va_S (lwA s) s.heap H locs) : W p l e room_1 s m #[Value.ref bA] below meth c H locs 70 1936 Q (F0 m 140 ls []) := by
  obtain ⟨hx, hb, hr, hml, hown, hts, hX, hbl, hlocks, hgv⟩ := C0
  have hA : ∀ k : Nat, s.heap.size ≤ k → lwA s k := fun _ h => h
  have hbA : ¬ lwA s bA := Nat.not_le.mpr hbl
  obtain ⟨hvn, hjn, hde, hfr, hy, hV, hk, ht⟩ := k_pre hR
  have hm := hV.1
  refine lv_aload_n hx hb dL_law_140 rfl (lv_at hl 2 rfl) ?_
  refine fmV (rest := []) (bs1 := LW cI cQ eo n b t hq aH a g q (fNewServer cn).2 cn ct (sRec v cn (fNewServer cn).1) x y z) ⟨hx, hb, hml, hown, hts⟩ (c_X4_addServer l G cI cQ eo n b t hq aH a g cn cb ct v x y hvn hjn hde hfr hy _) (cwV 0 hts (goodUp gL_law_X4_addServer) rfl rfl rfl cd_X4_addServer ⟨Nat.le_of_ble_eq_true rfl, Nat.le_of_ble_eq_true rfl⟩) hK hP hD hS hA [true, true, true, true, true, true, true, false] rfl rfl rfl rfl rfl 1 0 rfl rfl rfl rfl rfl hl.1 rfl (Nat.le_of_ble_eq_true rfl) dL_law_141 ⟨Nat.le_of_ble_eq_true rfl, Nat.le_of_ble_eq_true rfl⟩ (fun r H locs hr9 hP hD hS => ?_)
  subst hr9
  refine lv_aload_n hx hb dL_law_144 rfl (lv_at hl 1 rfl) ?_
  refine fmV (rest := [.int _]) (bs1 := LW cI cQ eo n b t hq aH a g q (fNewServer cn).2 cn ct (sRec v cn (fNewServer cn).1) x y (gAddServer z (knv cn)).2) ⟨hx, hb, hml, hown, hts⟩ (c_X5_addServer l G cI cQ q z (knv cn) (knj cn) hm hk _) (cwV 0 hts (goodUp gL_law_X5_addServer) rfl rfl rfl cd_X5_addServer ⟨Nat.le_of_ble_eq_true rfl, Nat.le_of_ble_eq_true rfl⟩) hK hP hD hS hA [false, false, false, false, false, false, false, true] rfl rfl rfl rfl rfl 7 0 rfl rfl rfl rfl rfl hl.1 rfl (Nat.le_of_ble_eq_true rfl) dL_law_145 ⟨Nat.le_of_ble_eq_true rfl, Nat.le_of_ble_eq_true rfl⟩ (fun r H locs hr9 hP hD hS => ?_)
  subst hr9
  refine lv_icmp_eq (tgt := 719) hx hb dL_law_148 (by decide) (fun _ => ?_) (fun c9 => absurd (k_addServer hR).1 c9)
  exact KK (fNewServer cn).2 cn ct (sRec v cn (fNewServer cn).1) x y (gAddServer z (knv cn)).2 _ _ (k_addServer hR).2 hP hD hS
set_option maxHeartbeats 4000000 in
set_option maxRecDepth 100000 in
theorem law_add {l : Launch} {p : Program} {e : Env} {s : State} {m : MethodId} {below : List Frame} {meth : Method} {c : Code} {Q : State → Prop} {bA L : Nat} {xs : Nat → Int32} {G : va_G} {cI cQ : ClassId} {eo : Nat} {n b t hq : Nat → Nat} {aH : Nat → Nat → Nat} {a : Nat} {g q : Nat → Nat} (hL : L ≤ 2048) (C0 : lw_At p s m meth c bA L xs) (hK : SF G cI cQ s) {i : Nat} (hi : i + 4 ≤ L) {ls : Array Slot} (hl : lv_has ls 4 [(3, .int (nI i)), (2, .ref (q 0)), (1, .ref eo), (0, .ref bA)])
    (KK : ∀ (cn cb ct : CS) (v : HW) (x : SS) (y : PS) (z : MS) (H : Heap) (locs : List Loc), rR cn v y z → va_P G vwCl (fl (LW cI cQ eo n b t hq aH a g q cn cb ct v x y z)) H → va_D (lwA s) (fl (LW cI cQ eo n b t hq aH a g q cn cb ct v x y z)) → va_S (lwA s) s.heap H locs → W p l e room_1 s m #[Value.ref bA] below meth c H locs 70 1936 Q (F0 m 719 ls []))
    {cn cb ct : CS} {v : HW} {x : SS} {y : PS} {z : MS} {H : Heap} {locs : List Loc} (hR : rR cn v y z) (hP : va_P G vwCl (fl (LW cI cQ eo n b t hq aH a g q cn cb ct v x y z)) H) (hD : va_D (lwA s) (fl (LW cI cQ eo n b t hq aH a g q cn cb ct v x y z))) (hS : va_S (lwA s) s.heap H locs) : W p l e room_1 s m #[Value.ref bA] below meth c H locs 70 1936 Q (F0 m 153 ls []) := by
  obtain ⟨hx, hb, hr, hml, hown, hts, hX, hbl, hlocks, hgv⟩ := C0
  have hA : ∀ k : Nat, s.heap.size ≤ k → lwA s k := fun _ h => h
  have hbA : ¬ lwA s bA := Nat.not_le.mpr hbl
  obtain ⟨hvn, hjn, hde, hfr, hy, hV, hk, ht⟩ := k_pre hR
  have hm := hV.1
  have h1 : vp_in (nI i + 1) L := by rw [show (1 : Int32) = nI 1 from rfl, nI_add]; exact vp_in_nI (by omega) (by omega)
  have h2 : vp_in (nI i + 2) L := by rw [show (2 : Int32) = nI 2 from rfl, nI_add]; exact vp_in_nI (by omega) (by omega)
  have h3 : vp_in (nI i + 3) L := by rw [show (3 : Int32) = nI 3 from rfl, nI_add]; exact vp_in_nI (by omega) (by omega)
  obtain ⟨a1, ea1⟩ : ∃ w, w = xs (nI i + 1).toNatClampNeg := ⟨_, rfl⟩
  obtain ⟨a2, ea2⟩ : ∃ w, w = xs (nI i + 2).toNatClampNeg := ⟨_, rfl⟩
  obtain ⟨a3, ea3⟩ : ∃ w, w = xs (nI i + 3).toNatClampNeg := ⟨_, rfl⟩
  refine lv_aload_n hx hb dL_law_153 rfl (lv_at hl 2 rfl) ?_
  refine lv_aload_n hx hb dL_law_154 rfl (lv_at hl 3 rfl) ?_
  refine lv_iload_n hx hb dL_law_155 rfl (lv_at hl 0 rfl) ?_
  refine lv_iconst (v := 1) hx hb dL_law_156 (by decide) ?_
  refine lv_iadd hx hb dL_law_157 ?_
  refine va_sld hx hb hX hbl hbA hS h1 dL_law_158 ?_
  rw [← ea1]
  refine lv_aload_n hx hb dL_law_159 rfl (lv_at hl 3 rfl) ?_
  refine lv_iload_n hx hb dL_law_160 rfl (lv_at hl 0 rfl) ?_
  refine lv_iconst (v := 2) hx hb dL_law_161 (by decide) ?_
  refine lv_iadd hx hb dL_law_162 ?_
  refine va_sld hx hb hX hbl hbA hS h2 dL_law_163 ?_
  rw [← ea2]
  refine lv_aload_n hx hb dL_law_164 rfl (lv_at hl 3 rfl) ?_
  refine lv_iload_n hx hb dL_law_165 rfl (lv_at hl 0 rfl) ?_
  refine lv_iconst (v := 3) hx hb dL_law_166 (by decide) ?_
  refine lv_iadd hx hb dL_law_167 ?_
  refine va_sld hx hb hX hbl hbA hS h3 dL_law_168 ?_
  rw [← ea3]
  refine fmV (rest := []) (bs1 := LW cI cQ eo n b t hq aH a g q (fNewJob cn a1 a2 a3).2 cn ct (sRec v cn (fNewJob cn a1 a2 a3).1) x y z) ⟨hx, hb, hml, hown, hts⟩ (c_X4_add l G cI cQ eo n b t hq aH a g cn cb ct v x y hvn hjn hde hfr hy a1 a2 a3 _) (cwV 3 hts (goodUp gL_law_X4_add) rfl rfl rfl cd_X4_add ⟨Nat.le_of_ble_eq_true rfl, Nat.le_of_ble_eq_true rfl⟩) hK hP hD hS hA [true, true, true, true, true, true, true, false] rfl rfl rfl rfl rfl 1 0 rfl rfl rfl rfl rfl hl.1 rfl (Nat.le_of_ble_eq_true rfl) dL_law_169 ⟨Nat.le_of_ble_eq_true rfl, Nat.le_of_ble_eq_true rfl⟩ (fun r H locs hr9 hP hD hS => ?_)
  subst hr9
  refine lv_aload_n hx hb dL_law_172 rfl (lv_at hl 1 rfl) ?_
  refine lv_aload_n hx hb dL_law_173 rfl (lv_at hl 3 rfl) ?_
  refine lv_iload_n hx hb dL_law_174 rfl (lv_at hl 0 rfl) ?_
  refine lv_iconst (v := 1) hx hb dL_law_175 (by decide) ?_
  refine lv_iadd hx hb dL_law_176 ?_
  refine va_sld hx hb hX hbl hbA hS h1 dL_law_177 ?_
  rw [← ea1]
  refine lv_aload_n hx hb dL_law_178 rfl (lv_at hl 3 rfl) ?_
  refine lv_iload_n hx hb dL_law_179 rfl (lv_at hl 0 rfl) ?_
  refine lv_iconst (v := 2) hx hb dL_law_180 (by decide) ?_
  refine lv_iadd hx hb dL_law_181 ?_
  refine va_sld hx hb hX hbl hbA hS h2 dL_law_182 ?_
  rw [← ea2]
  refine lv_aload_n hx hb dL_law_183 rfl (lv_at hl 3 rfl) ?_
  refine lv_iload_n hx hb dL_law_184 rfl (lv_at hl 0 rfl) ?_
  refine lv_iconst (v := 3) hx hb dL_law_185 (by decide) ?_
  refine lv_iadd hx hb dL_law_186 ?_
  refine va_sld hx hb hX hbl hbA hS h3 dL_law_187 ?_
  rw [← ea3]
  refine fmV (rest := [.int _]) (bs1 := LW cI cQ eo n b t hq aH a g q (fNewJob cn a1 a2 a3).2 cn ct (sRec v cn (fNewJob cn a1 a2 a3).1) x y (gAct z (gAdds (kMs z) (knv cn) (knj cn) a1 a2 a3))) ⟨hx, hb, hml, hown, hts⟩ (c_X5_add l G cI cQ q z (knv cn) (knj cn) hm a1 a2 a3 hk _) (cwV 3 hts (goodUp gL_law_X5_add) rfl rfl rfl cd_X5_add ⟨Nat.le_of_ble_eq_true rfl, Nat.le_of_ble_eq_true rfl⟩) hK hP hD hS hA [false, false, false, false, false, false, false, true] rfl rfl rfl rfl rfl 7 0 rfl rfl rfl rfl rfl hl.1 rfl (Nat.le_of_ble_eq_true rfl) dL_law_188 ⟨Nat.le_of_ble_eq_true rfl, Nat.le_of_ble_eq_true rfl⟩ (fun r H locs hr9 hP hD hS => ?_)
  subst hr9
  refine lv_icmp_eq (tgt := 719) hx hb dL_law_191 (by decide) (fun _ => ?_) (fun c9 => absurd (k_add hR a1 a2 a3).1 c9)
  exact KK (fNewJob cn a1 a2 a3).2 cn ct (sRec v cn (fNewJob cn a1 a2 a3).1) x y (gAct z (gAdds (kMs z) (knv cn) (knj cn) a1 a2 a3)) _ _ (k_add hR a1 a2 a3).2 hP hD hS
set_option maxHeartbeats 4000000 in
set_option maxRecDepth 100000 in
theorem law_finish {l : Launch} {p : Program} {e : Env} {s : State} {m : MethodId} {below : List Frame} {meth : Method} {c : Code} {Q : State → Prop} {bA L : Nat} {xs : Nat → Int32} {G : va_G} {cI cQ : ClassId} {eo : Nat} {n b t hq : Nat → Nat} {aH : Nat → Nat → Nat} {a : Nat} {g q : Nat → Nat} (hL : L ≤ 2048) (C0 : lw_At p s m meth c bA L xs) (hK : SF G cI cQ s) {i : Nat} (hi : i + 4 ≤ L) {ls : Array Slot} (hl : lv_has ls 4 [(3, .int (nI i)), (2, .ref (q 0)), (1, .ref eo), (0, .ref bA)])
    (KK : ∀ (cn cb ct : CS) (v : HW) (x : SS) (y : PS) (z : MS) (H : Heap) (locs : List Loc), rR cn v y z → va_P G vwCl (fl (LW cI cQ eo n b t hq aH a g q cn cb ct v x y z)) H → va_D (lwA s) (fl (LW cI cQ eo n b t hq aH a g q cn cb ct v x y z)) → va_S (lwA s) s.heap H locs → W p l e room_1 s m #[Value.ref bA] below meth c H locs 70 1936 Q (F0 m 719 ls []))
    {cn cb ct : CS} {v : HW} {x : SS} {y : PS} {z : MS} {H : Heap} {locs : List Loc} (hR : rR cn v y z) (hP : va_P G vwCl (fl (LW cI cQ eo n b t hq aH a g q cn cb ct v x y z)) H) (hD : va_D (lwA s) (fl (LW cI cQ eo n b t hq aH a g q cn cb ct v x y z))) (hS : va_S (lwA s) s.heap H locs) : W p l e room_1 s m #[Value.ref bA] below meth c H locs 70 1936 Q (F0 m 196 ls []) := by
  obtain ⟨hx, hb, hr, hml, hown, hts, hX, hbl, hlocks, hgv⟩ := C0
  have hA : ∀ k : Nat, s.heap.size ≤ k → lwA s k := fun _ h => h
  have hbA : ¬ lwA s bA := Nat.not_le.mpr hbl
  obtain ⟨hvn, hjn, hde, hfr, hy, hV, hk, ht⟩ := k_pre hR
  have hm := hV.1
  have h1 : vp_in (nI i + 1) L := by rw [show (1 : Int32) = nI 1 from rfl, nI_add]; exact vp_in_nI (by omega) (by omega)
  obtain ⟨a1, ea1⟩ : ∃ w, w = xs (nI i + 1).toNatClampNeg := ⟨_, rfl⟩
  refine lv_aload_n hx hb dL_law_196 rfl (lv_at hl 2 rfl) ?_
  refine lv_aload_n hx hb dL_law_197 rfl (lv_at hl 3 rfl) ?_
  refine lv_iload_n hx hb dL_law_198 rfl (lv_at hl 0 rfl) ?_
  refine lv_iconst (v := 1) hx hb dL_law_199 (by decide) ?_
  refine lv_iadd hx hb dL_law_200 ?_
  refine va_sld hx hb hX hbl hbA hS h1 dL_law_201 ?_
  rw [← ea1]
  refine fmV (rest := []) (bs1 := LW cI cQ eo n b t hq aH a g q (fEnd cn a1).2 cn ct (sRec v cn (fEnd cn a1).1) x y z) ⟨hx, hb, hml, hown, hts⟩ (c_X4_finish l G cI cQ eo n b t hq aH a g cn cb ct v x y hvn hjn hde hfr hy a1 _) (cwV 1 hts (goodUp gL_law_X4_finish) rfl rfl rfl cd_X4_finish ⟨Nat.le_of_ble_eq_true rfl, Nat.le_of_ble_eq_true rfl⟩) hK hP hD hS hA [true, true, true, true, true, true, true, false] rfl rfl rfl rfl rfl 1 0 rfl rfl rfl rfl rfl hl.1 rfl (Nat.le_of_ble_eq_true rfl) dL_law_202 ⟨Nat.le_of_ble_eq_true rfl, Nat.le_of_ble_eq_true rfl⟩ (fun r H locs hr9 hP hD hS => ?_)
  subst hr9
  refine lv_aload_n hx hb dL_law_205 rfl (lv_at hl 1 rfl) ?_
  refine lv_aload_n hx hb dL_law_206 rfl (lv_at hl 3 rfl) ?_
  refine lv_iload_n hx hb dL_law_207 rfl (lv_at hl 0 rfl) ?_
  refine lv_iconst (v := 1) hx hb dL_law_208 (by decide) ?_
  refine lv_iadd hx hb dL_law_209 ?_
  refine va_sld hx hb hX hbl hbA hS h1 dL_law_210 ?_
  rw [← ea1]
  refine fmV (rest := [.int _]) (bs1 := LW cI cQ eo n b t hq aH a g q (fEnd cn a1).2 cn ct (sRec v cn (fEnd cn a1).1) x y (gAct z (gFin (kMs z) (knj cn) a1))) ⟨hx, hb, hml, hown, hts⟩ (c_X5_finish l G cI cQ q z (knv cn) (knj cn) hm a1 hk _) (cwV 1 hts (goodUp gL_law_X5_finish) rfl rfl rfl cd_X5_finish ⟨Nat.le_of_ble_eq_true rfl, Nat.le_of_ble_eq_true rfl⟩) hK hP hD hS hA [false, false, false, false, false, false, false, true] rfl rfl rfl rfl rfl 7 0 rfl rfl rfl rfl rfl hl.1 rfl (Nat.le_of_ble_eq_true rfl) dL_law_211 ⟨Nat.le_of_ble_eq_true rfl, Nat.le_of_ble_eq_true rfl⟩ (fun r H locs hr9 hP hD hS => ?_)
  subst hr9
  refine lv_icmp_eq (tgt := 719) hx hb dL_law_214 (by decide) (fun _ => ?_) (fun c9 => absurd (k_finish hR a1).1 c9)
  exact KK (fEnd cn a1).2 cn ct (sRec v cn (fEnd cn a1).1) x y (gAct z (gFin (kMs z) (knj cn) a1)) _ _ (k_finish hR a1).2 hP hD hS
set_option maxHeartbeats 4000000 in
set_option maxRecDepth 100000 in
theorem law_setBudget {l : Launch} {p : Program} {e : Env} {s : State} {m : MethodId} {below : List Frame} {meth : Method} {c : Code} {Q : State → Prop} {bA L : Nat} {xs : Nat → Int32} {G : va_G} {cI cQ : ClassId} {eo : Nat} {n b t hq : Nat → Nat} {aH : Nat → Nat → Nat} {a : Nat} {g q : Nat → Nat} (hL : L ≤ 2048) (C0 : lw_At p s m meth c bA L xs) (hK : SF G cI cQ s) {i : Nat} (hi : i + 4 ≤ L) {ls : Array Slot} (hl : lv_has ls 4 [(3, .int (nI i)), (2, .ref (q 0)), (1, .ref eo), (0, .ref bA)])
    (KK : ∀ (cn cb ct : CS) (v : HW) (x : SS) (y : PS) (z : MS) (H : Heap) (locs : List Loc), rR cn v y z → va_P G vwCl (fl (LW cI cQ eo n b t hq aH a g q cn cb ct v x y z)) H → va_D (lwA s) (fl (LW cI cQ eo n b t hq aH a g q cn cb ct v x y z)) → va_S (lwA s) s.heap H locs → W p l e room_1 s m #[Value.ref bA] below meth c H locs 70 1936 Q (F0 m 719 ls []))
    {cn cb ct : CS} {v : HW} {x : SS} {y : PS} {z : MS} {H : Heap} {locs : List Loc} (hR : rR cn v y z) (hP : va_P G vwCl (fl (LW cI cQ eo n b t hq aH a g q cn cb ct v x y z)) H) (hD : va_D (lwA s) (fl (LW cI cQ eo n b t hq aH a g q cn cb ct v x y z))) (hS : va_S (lwA s) s.heap H locs) : W p l e room_1 s m #[Value.ref bA] below meth c H locs 70 1936 Q (F0 m 219 ls []) := by
  obtain ⟨hx, hb, hr, hml, hown, hts, hX, hbl, hlocks, hgv⟩ := C0
  have hA : ∀ k : Nat, s.heap.size ≤ k → lwA s k := fun _ h => h
  have hbA : ¬ lwA s bA := Nat.not_le.mpr hbl
  obtain ⟨hvn, hjn, hde, hfr, hy, hV, hk, ht⟩ := k_pre hR
  have hm := hV.1
  have h1 : vp_in (nI i + 1) L := by rw [show (1 : Int32) = nI 1 from rfl, nI_add]; exact vp_in_nI (by omega) (by omega)
  obtain ⟨a1, ea1⟩ : ∃ w, w = xs (nI i + 1).toNatClampNeg := ⟨_, rfl⟩
  refine lv_aload_n hx hb dL_law_219 rfl (lv_at hl 2 rfl) ?_
  refine lv_aload_n hx hb dL_law_220 rfl (lv_at hl 3 rfl) ?_
  refine lv_iload_n hx hb dL_law_221 rfl (lv_at hl 0 rfl) ?_
  refine lv_iconst (v := 1) hx hb dL_law_222 (by decide) ?_
  refine lv_iadd hx hb dL_law_223 ?_
  refine va_sld hx hb hX hbl hbA hS h1 dL_law_224 ?_
  rw [← ea1]
  refine fmV (rest := []) (bs1 := LW cI cQ eo n b t hq aH a g q (fBudget cn a1).2 cn ct (sRec v cn (fBudget cn a1).1) x y z) ⟨hx, hb, hml, hown, hts⟩ (c_X4_setBudget l G cI cQ eo n b t hq aH a g cn cb ct v x y hvn hjn hde hfr hy a1 _) (cwV 1 hts (goodUp gL_law_X4_setBudget) rfl rfl rfl cd_X4_setBudget ⟨Nat.le_of_ble_eq_true rfl, Nat.le_of_ble_eq_true rfl⟩) hK hP hD hS hA [true, true, true, true, true, true, true, false] rfl rfl rfl rfl rfl 1 0 rfl rfl rfl rfl rfl hl.1 rfl (Nat.le_of_ble_eq_true rfl) dL_law_225 ⟨Nat.le_of_ble_eq_true rfl, Nat.le_of_ble_eq_true rfl⟩ (fun r H locs hr9 hP hD hS => ?_)
  subst hr9
  refine lv_aload_n hx hb dL_law_228 rfl (lv_at hl 1 rfl) ?_
  refine lv_aload_n hx hb dL_law_229 rfl (lv_at hl 3 rfl) ?_
  refine lv_iload_n hx hb dL_law_230 rfl (lv_at hl 0 rfl) ?_
  refine lv_iconst (v := 1) hx hb dL_law_231 (by decide) ?_
  refine lv_iadd hx hb dL_law_232 ?_
  refine va_sld hx hb hX hbl hbA hS h1 dL_law_233 ?_
  rw [← ea1]
  refine fmV (rest := [.int _]) (bs1 := LW cI cQ eo n b t hq aH a g q (fBudget cn a1).2 cn ct (sRec v cn (fBudget cn a1).1) x y (gSetBudget z a1).2) ⟨hx, hb, hml, hown, hts⟩ (c_X5_setBudget l G cI cQ q z (knv cn) (knj cn) hm a1 hk _) (cwV 1 hts (goodUp gL_law_X5_setBudget) rfl rfl rfl cd_X5_setBudget ⟨Nat.le_of_ble_eq_true rfl, Nat.le_of_ble_eq_true rfl⟩) hK hP hD hS hA [false, false, false, false, false, false, false, true] rfl rfl rfl rfl rfl 7 0 rfl rfl rfl rfl rfl hl.1 rfl (Nat.le_of_ble_eq_true rfl) dL_law_234 ⟨Nat.le_of_ble_eq_true rfl, Nat.le_of_ble_eq_true rfl⟩ (fun r H locs hr9 hP hD hS => ?_)
  subst hr9
  refine lv_icmp_eq (tgt := 719) hx hb dL_law_237 (by decide) (fun _ => ?_) (fun c9 => absurd (k_setBudget hR a1).1 c9)
  exact KK (fBudget cn a1).2 cn ct (sRec v cn (fBudget cn a1).1) x y (gSetBudget z a1).2 _ _ (k_setBudget hR a1).2 hP hD hS
set_option maxHeartbeats 4000000 in
set_option maxRecDepth 100000 in
theorem law_setFactor {l : Launch} {p : Program} {e : Env} {s : State} {m : MethodId} {below : List Frame} {meth : Method} {c : Code} {Q : State → Prop} {bA L : Nat} {xs : Nat → Int32} {G : va_G} {cI cQ : ClassId} {eo : Nat} {n b t hq : Nat → Nat} {aH : Nat → Nat → Nat} {a : Nat} {g q : Nat → Nat} (hL : L ≤ 2048) (C0 : lw_At p s m meth c bA L xs) (hK : SF G cI cQ s) {i : Nat} (hi : i + 4 ≤ L) {ls : Array Slot} (hl : lv_has ls 4 [(3, .int (nI i)), (2, .ref (q 0)), (1, .ref eo), (0, .ref bA)])
    (KK : ∀ (cn cb ct : CS) (v : HW) (x : SS) (y : PS) (z : MS) (H : Heap) (locs : List Loc), rR cn v y z → va_P G vwCl (fl (LW cI cQ eo n b t hq aH a g q cn cb ct v x y z)) H → va_D (lwA s) (fl (LW cI cQ eo n b t hq aH a g q cn cb ct v x y z)) → va_S (lwA s) s.heap H locs → W p l e room_1 s m #[Value.ref bA] below meth c H locs 70 1936 Q (F0 m 719 ls []))
    {cn cb ct : CS} {v : HW} {x : SS} {y : PS} {z : MS} {H : Heap} {locs : List Loc} (hR : rR cn v y z) (hP : va_P G vwCl (fl (LW cI cQ eo n b t hq aH a g q cn cb ct v x y z)) H) (hD : va_D (lwA s) (fl (LW cI cQ eo n b t hq aH a g q cn cb ct v x y z))) (hS : va_S (lwA s) s.heap H locs) : W p l e room_1 s m #[Value.ref bA] below meth c H locs 70 1936 Q (F0 m 242 ls []) := by
  obtain ⟨hx, hb, hr, hml, hown, hts, hX, hbl, hlocks, hgv⟩ := C0
  have hA : ∀ k : Nat, s.heap.size ≤ k → lwA s k := fun _ h => h
  have hbA : ¬ lwA s bA := Nat.not_le.mpr hbl
  obtain ⟨hvn, hjn, hde, hfr, hy, hV, hk, ht⟩ := k_pre hR
  have hm := hV.1
  have h1 : vp_in (nI i + 1) L := by rw [show (1 : Int32) = nI 1 from rfl, nI_add]; exact vp_in_nI (by omega) (by omega)
  obtain ⟨a1, ea1⟩ : ∃ w, w = xs (nI i + 1).toNatClampNeg := ⟨_, rfl⟩
  refine lv_aload_n hx hb dL_law_242 rfl (lv_at hl 2 rfl) ?_
  refine lv_aload_n hx hb dL_law_243 rfl (lv_at hl 3 rfl) ?_
  refine lv_iload_n hx hb dL_law_244 rfl (lv_at hl 0 rfl) ?_
  refine lv_iconst (v := 1) hx hb dL_law_245 (by decide) ?_
  refine lv_iadd hx hb dL_law_246 ?_
  refine va_sld hx hb hX hbl hbA hS h1 dL_law_247 ?_
  rw [← ea1]
  refine fmV (rest := []) (bs1 := LW cI cQ eo n b t hq aH a g q (fFactor cn a1).2 cn ct (sRec v cn (fFactor cn a1).1) x y z) ⟨hx, hb, hml, hown, hts⟩ (c_X4_setFactor l G cI cQ eo n b t hq aH a g cn cb ct v x y hvn hjn hde hfr hy a1 _) (cwV 1 hts (goodUp gL_law_X4_setFactor) rfl rfl rfl cd_X4_setFactor ⟨Nat.le_of_ble_eq_true rfl, Nat.le_of_ble_eq_true rfl⟩) hK hP hD hS hA [true, true, true, true, true, true, true, false] rfl rfl rfl rfl rfl 1 0 rfl rfl rfl rfl rfl hl.1 rfl (Nat.le_of_ble_eq_true rfl) dL_law_248 ⟨Nat.le_of_ble_eq_true rfl, Nat.le_of_ble_eq_true rfl⟩ (fun r H locs hr9 hP hD hS => ?_)
  subst hr9
  refine lv_aload_n hx hb dL_law_251 rfl (lv_at hl 1 rfl) ?_
  refine lv_aload_n hx hb dL_law_252 rfl (lv_at hl 3 rfl) ?_
  refine lv_iload_n hx hb dL_law_253 rfl (lv_at hl 0 rfl) ?_
  refine lv_iconst (v := 1) hx hb dL_law_254 (by decide) ?_
  refine lv_iadd hx hb dL_law_255 ?_
  refine va_sld hx hb hX hbl hbA hS h1 dL_law_256 ?_
  rw [← ea1]
  refine fmV (rest := [.int _]) (bs1 := LW cI cQ eo n b t hq aH a g q (fFactor cn a1).2 cn ct (sRec v cn (fFactor cn a1).1) x y (gSetFactor z (knj cn) a1).2) ⟨hx, hb, hml, hown, hts⟩ (c_X5_setFactor l G cI cQ q z (knv cn) (knj cn) hm a1 hk _) (cwV 1 hts (goodUp gL_law_X5_setFactor) rfl rfl rfl cd_X5_setFactor ⟨Nat.le_of_ble_eq_true rfl, Nat.le_of_ble_eq_true rfl⟩) hK hP hD hS hA [false, false, false, false, false, false, false, true] rfl rfl rfl rfl rfl 7 0 rfl rfl rfl rfl rfl hl.1 rfl (Nat.le_of_ble_eq_true rfl) dL_law_257 ⟨Nat.le_of_ble_eq_true rfl, Nat.le_of_ble_eq_true rfl⟩ (fun r H locs hr9 hP hD hS => ?_)
  subst hr9
  refine lv_icmp_eq (tgt := 719) hx hb dL_law_260 (by decide) (fun _ => ?_) (fun c9 => absurd (k_setFactor hR a1).1 c9)
  exact KK (fFactor cn a1).2 cn ct (sRec v cn (fFactor cn a1).1) x y (gSetFactor z (knj cn) a1).2 _ _ (k_setFactor hR a1).2 hP hD hS
set_option maxHeartbeats 4000000 in
set_option maxRecDepth 100000 in
theorem law_move {l : Launch} {p : Program} {e : Env} {s : State} {m : MethodId} {below : List Frame} {meth : Method} {c : Code} {Q : State → Prop} {bA L : Nat} {xs : Nat → Int32} {G : va_G} {cI cQ : ClassId} {eo : Nat} {n b t hq : Nat → Nat} {aH : Nat → Nat → Nat} {a : Nat} {g q : Nat → Nat} (hL : L ≤ 2048) (C0 : lw_At p s m meth c bA L xs) (hK : SF G cI cQ s) {i : Nat} (hi : i + 4 ≤ L) {ls : Array Slot} (hl : lv_has ls 4 [(3, .int (nI i)), (2, .ref (q 0)), (1, .ref eo), (0, .ref bA)])
    (KK : ∀ (cn cb ct : CS) (v : HW) (x : SS) (y : PS) (z : MS) (H : Heap) (locs : List Loc), rR cn v y z → va_P G vwCl (fl (LW cI cQ eo n b t hq aH a g q cn cb ct v x y z)) H → va_D (lwA s) (fl (LW cI cQ eo n b t hq aH a g q cn cb ct v x y z)) → va_S (lwA s) s.heap H locs → W p l e room_1 s m #[Value.ref bA] below meth c H locs 70 1936 Q (F0 m 719 ls []))
    {cn cb ct : CS} {v : HW} {x : SS} {y : PS} {z : MS} {H : Heap} {locs : List Loc} (hR : rR cn v y z) (hP : va_P G vwCl (fl (LW cI cQ eo n b t hq aH a g q cn cb ct v x y z)) H) (hD : va_D (lwA s) (fl (LW cI cQ eo n b t hq aH a g q cn cb ct v x y z))) (hS : va_S (lwA s) s.heap H locs) : W p l e room_1 s m #[Value.ref bA] below meth c H locs 70 1936 Q (F0 m 265 ls []) := by
  obtain ⟨hx, hb, hr, hml, hown, hts, hX, hbl, hlocks, hgv⟩ := C0
  have hA : ∀ k : Nat, s.heap.size ≤ k → lwA s k := fun _ h => h
  have hbA : ¬ lwA s bA := Nat.not_le.mpr hbl
  obtain ⟨hvn, hjn, hde, hfr, hy, hV, hk, ht⟩ := k_pre hR
  have hm := hV.1
  have h1 : vp_in (nI i + 1) L := by rw [show (1 : Int32) = nI 1 from rfl, nI_add]; exact vp_in_nI (by omega) (by omega)
  have h2 : vp_in (nI i + 2) L := by rw [show (2 : Int32) = nI 2 from rfl, nI_add]; exact vp_in_nI (by omega) (by omega)
  obtain ⟨a1, ea1⟩ : ∃ w, w = xs (nI i + 1).toNatClampNeg := ⟨_, rfl⟩
  obtain ⟨a2, ea2⟩ : ∃ w, w = xs (nI i + 2).toNatClampNeg := ⟨_, rfl⟩
  refine lv_aload_n hx hb dL_law_265 rfl (lv_at hl 2 rfl) ?_
  refine lv_aload_n hx hb dL_law_266 rfl (lv_at hl 3 rfl) ?_
  refine lv_iload_n hx hb dL_law_267 rfl (lv_at hl 0 rfl) ?_
  refine lv_iconst (v := 1) hx hb dL_law_268 (by decide) ?_
  refine lv_iadd hx hb dL_law_269 ?_
  refine va_sld hx hb hX hbl hbA hS h1 dL_law_270 ?_
  rw [← ea1]
  refine lv_aload_n hx hb dL_law_271 rfl (lv_at hl 3 rfl) ?_
  refine lv_iload_n hx hb dL_law_272 rfl (lv_at hl 0 rfl) ?_
  refine lv_iconst (v := 2) hx hb dL_law_273 (by decide) ?_
  refine lv_iadd hx hb dL_law_274 ?_
  refine va_sld hx hb hX hbl hbA hS h2 dL_law_275 ?_
  rw [← ea2]
  refine fmV (rest := []) (bs1 := LW cI cQ eo n b t hq aH a g q (fMove cn a1 a2).2 cn ct (sRec v cn (fMove cn a1 a2).1) x y z) ⟨hx, hb, hml, hown, hts⟩ (c_X4_move l G cI cQ eo n b t hq aH a g cn cb ct v x y hvn hjn hde hfr hy a1 a2 _) (cwV 2 hts (goodUp gL_law_X4_move) rfl rfl rfl cd_X4_move ⟨Nat.le_of_ble_eq_true rfl, Nat.le_of_ble_eq_true rfl⟩) hK hP hD hS hA [true, true, true, true, true, true, true, false] rfl rfl rfl rfl rfl 1 0 rfl rfl rfl rfl rfl hl.1 rfl (Nat.le_of_ble_eq_true rfl) dL_law_276 ⟨Nat.le_of_ble_eq_true rfl, Nat.le_of_ble_eq_true rfl⟩ (fun r H locs hr9 hP hD hS => ?_)
  subst hr9
  refine lv_aload_n hx hb dL_law_279 rfl (lv_at hl 1 rfl) ?_
  refine lv_aload_n hx hb dL_law_280 rfl (lv_at hl 3 rfl) ?_
  refine lv_iload_n hx hb dL_law_281 rfl (lv_at hl 0 rfl) ?_
  refine lv_iconst (v := 1) hx hb dL_law_282 (by decide) ?_
  refine lv_iadd hx hb dL_law_283 ?_
  refine va_sld hx hb hX hbl hbA hS h1 dL_law_284 ?_
  rw [← ea1]
  refine lv_aload_n hx hb dL_law_285 rfl (lv_at hl 3 rfl) ?_
  refine lv_iload_n hx hb dL_law_286 rfl (lv_at hl 0 rfl) ?_
  refine lv_iconst (v := 2) hx hb dL_law_287 (by decide) ?_
  refine lv_iadd hx hb dL_law_288 ?_
  refine va_sld hx hb hX hbl hbA hS h2 dL_law_289 ?_
  rw [← ea2]
  refine fmV (rest := [.int _]) (bs1 := LW cI cQ eo n b t hq aH a g q (fMove cn a1 a2).2 cn ct (sRec v cn (fMove cn a1 a2).1) x y (gAct z (gMoves (kMs z) (knv cn) (knj cn) a1 a2))) ⟨hx, hb, hml, hown, hts⟩ (c_X5_move l G cI cQ q z (knv cn) (knj cn) hm a1 a2 hk _) (cwV 2 hts (goodUp gL_law_X5_move) rfl rfl rfl cd_X5_move ⟨Nat.le_of_ble_eq_true rfl, Nat.le_of_ble_eq_true rfl⟩) hK hP hD hS hA [false, false, false, false, false, false, false, true] rfl rfl rfl rfl rfl 7 0 rfl rfl rfl rfl rfl hl.1 rfl (Nat.le_of_ble_eq_true rfl) dL_law_290 ⟨Nat.le_of_ble_eq_true rfl, Nat.le_of_ble_eq_true rfl⟩ (fun r H locs hr9 hP hD hS => ?_)
  subst hr9
  refine lv_icmp_eq (tgt := 719) hx hb dL_law_293 (by decide) (fun _ => ?_) (fun c9 => absurd (k_move hR a1 a2).1 c9)
  exact KK (fMove cn a1 a2).2 cn ct (sRec v cn (fMove cn a1 a2).1) x y (gAct z (gMoves (kMs z) (knv cn) (knj cn) a1 a2)) _ _ (k_move hR a1 a2).2 hP hD hS
set_option maxHeartbeats 4000000 in
set_option maxRecDepth 100000 in
theorem law_exchange {l : Launch} {p : Program} {e : Env} {s : State} {m : MethodId} {below : List Frame} {meth : Method} {c : Code} {Q : State → Prop} {bA L : Nat} {xs : Nat → Int32} {G : va_G} {cI cQ : ClassId} {eo : Nat} {n b t hq : Nat → Nat} {aH : Nat → Nat → Nat} {a : Nat} {g q : Nat → Nat} (hL : L ≤ 2048) (C0 : lw_At p s m meth c bA L xs) (hK : SF G cI cQ s) {i : Nat} (hi : i + 4 ≤ L) {ls : Array Slot} (hl : lv_has ls 4 [(3, .int (nI i)), (2, .ref (q 0)), (1, .ref eo), (0, .ref bA)])
    (KK : ∀ (cn cb ct : CS) (v : HW) (x : SS) (y : PS) (z : MS) (H : Heap) (locs : List Loc), rR cn v y z → va_P G vwCl (fl (LW cI cQ eo n b t hq aH a g q cn cb ct v x y z)) H → va_D (lwA s) (fl (LW cI cQ eo n b t hq aH a g q cn cb ct v x y z)) → va_S (lwA s) s.heap H locs → W p l e room_1 s m #[Value.ref bA] below meth c H locs 70 1936 Q (F0 m 719 ls []))
    {cn cb ct : CS} {v : HW} {x : SS} {y : PS} {z : MS} {H : Heap} {locs : List Loc} (hR : rR cn v y z) (hP : va_P G vwCl (fl (LW cI cQ eo n b t hq aH a g q cn cb ct v x y z)) H) (hD : va_D (lwA s) (fl (LW cI cQ eo n b t hq aH a g q cn cb ct v x y z))) (hS : va_S (lwA s) s.heap H locs) : W p l e room_1 s m #[Value.ref bA] below meth c H locs 70 1936 Q (F0 m 298 ls []) := by
  obtain ⟨hx, hb, hr, hml, hown, hts, hX, hbl, hlocks, hgv⟩ := C0
  have hA : ∀ k : Nat, s.heap.size ≤ k → lwA s k := fun _ h => h
  have hbA : ¬ lwA s bA := Nat.not_le.mpr hbl
  obtain ⟨hvn, hjn, hde, hfr, hy, hV, hk, ht⟩ := k_pre hR
  have hm := hV.1
  have h1 : vp_in (nI i + 1) L := by rw [show (1 : Int32) = nI 1 from rfl, nI_add]; exact vp_in_nI (by omega) (by omega)
  have h2 : vp_in (nI i + 2) L := by rw [show (2 : Int32) = nI 2 from rfl, nI_add]; exact vp_in_nI (by omega) (by omega)
  obtain ⟨a1, ea1⟩ : ∃ w, w = xs (nI i + 1).toNatClampNeg := ⟨_, rfl⟩
  obtain ⟨a2, ea2⟩ : ∃ w, w = xs (nI i + 2).toNatClampNeg := ⟨_, rfl⟩
  refine lv_aload_n hx hb dL_law_298 rfl (lv_at hl 2 rfl) ?_
  refine lv_aload_n hx hb dL_law_299 rfl (lv_at hl 3 rfl) ?_
  refine lv_iload_n hx hb dL_law_300 rfl (lv_at hl 0 rfl) ?_
  refine lv_iconst (v := 1) hx hb dL_law_301 (by decide) ?_
  refine lv_iadd hx hb dL_law_302 ?_
  refine va_sld hx hb hX hbl hbA hS h1 dL_law_303 ?_
  rw [← ea1]
  refine lv_aload_n hx hb dL_law_304 rfl (lv_at hl 3 rfl) ?_
  refine lv_iload_n hx hb dL_law_305 rfl (lv_at hl 0 rfl) ?_
  refine lv_iconst (v := 2) hx hb dL_law_306 (by decide) ?_
  refine lv_iadd hx hb dL_law_307 ?_
  refine va_sld hx hb hX hbl hbA hS h2 dL_law_308 ?_
  rw [← ea2]
  refine fmV (rest := []) (bs1 := LW cI cQ eo n b t hq aH a g q (fExch cn a1 a2).2 cn ct (sRec v cn (fExch cn a1 a2).1) x y z) ⟨hx, hb, hml, hown, hts⟩ (c_X4_exchange l G cI cQ eo n b t hq aH a g cn cb ct v x y hvn hjn hde hfr hy a1 a2 _) (cwV 2 hts (goodUp gL_law_X4_exchange) rfl rfl rfl cd_X4_exchange ⟨Nat.le_of_ble_eq_true rfl, Nat.le_of_ble_eq_true rfl⟩) hK hP hD hS hA [true, true, true, true, true, true, true, false] rfl rfl rfl rfl rfl 1 0 rfl rfl rfl rfl rfl hl.1 rfl (Nat.le_of_ble_eq_true rfl) dL_law_309 ⟨Nat.le_of_ble_eq_true rfl, Nat.le_of_ble_eq_true rfl⟩ (fun r H locs hr9 hP hD hS => ?_)
  subst hr9
  refine lv_aload_n hx hb dL_law_312 rfl (lv_at hl 1 rfl) ?_
  refine lv_aload_n hx hb dL_law_313 rfl (lv_at hl 3 rfl) ?_
  refine lv_iload_n hx hb dL_law_314 rfl (lv_at hl 0 rfl) ?_
  refine lv_iconst (v := 1) hx hb dL_law_315 (by decide) ?_
  refine lv_iadd hx hb dL_law_316 ?_
  refine va_sld hx hb hX hbl hbA hS h1 dL_law_317 ?_
  rw [← ea1]
  refine lv_aload_n hx hb dL_law_318 rfl (lv_at hl 3 rfl) ?_
  refine lv_iload_n hx hb dL_law_319 rfl (lv_at hl 0 rfl) ?_
  refine lv_iconst (v := 2) hx hb dL_law_320 (by decide) ?_
  refine lv_iadd hx hb dL_law_321 ?_
  refine va_sld hx hb hX hbl hbA hS h2 dL_law_322 ?_
  rw [← ea2]
  refine fmV (rest := [.int _]) (bs1 := LW cI cQ eo n b t hq aH a g q (fExch cn a1 a2).2 cn ct (sRec v cn (fExch cn a1 a2).1) x y (gAct z (gExch (kMs z) (knv cn) (knj cn) a1 a2))) ⟨hx, hb, hml, hown, hts⟩ (c_X5_exchange l G cI cQ q z (knv cn) (knj cn) hm a1 a2 hk _) (cwV 2 hts (goodUp gL_law_X5_exchange) rfl rfl rfl cd_X5_exchange ⟨Nat.le_of_ble_eq_true rfl, Nat.le_of_ble_eq_true rfl⟩) hK hP hD hS hA [false, false, false, false, false, false, false, true] rfl rfl rfl rfl rfl 7 0 rfl rfl rfl rfl rfl hl.1 rfl (Nat.le_of_ble_eq_true rfl) dL_law_323 ⟨Nat.le_of_ble_eq_true rfl, Nat.le_of_ble_eq_true rfl⟩ (fun r H locs hr9 hP hD hS => ?_)
  subst hr9
  refine lv_icmp_eq (tgt := 719) hx hb dL_law_326 (by decide) (fun _ => ?_) (fun c9 => absurd (k_exchange hR a1 a2).1 c9)
  exact KK (fExch cn a1 a2).2 cn ct (sRec v cn (fExch cn a1 a2).1) x y (gAct z (gExch (kMs z) (knv cn) (knj cn) a1 a2)) _ _ (k_exchange hR a1 a2).2 hP hD hS
set_option maxHeartbeats 4000000 in
set_option maxRecDepth 100000 in
theorem law_ring {l : Launch} {p : Program} {e : Env} {s : State} {m : MethodId} {below : List Frame} {meth : Method} {c : Code} {Q : State → Prop} {bA L : Nat} {xs : Nat → Int32} {G : va_G} {cI cQ : ClassId} {eo : Nat} {n b t hq : Nat → Nat} {aH : Nat → Nat → Nat} {a : Nat} {g q : Nat → Nat} (hL : L ≤ 2048) (C0 : lw_At p s m meth c bA L xs) (hK : SF G cI cQ s) {i : Nat} (hi : i + 4 ≤ L) {ls : Array Slot} (hl : lv_has ls 4 [(3, .int (nI i)), (2, .ref (q 0)), (1, .ref eo), (0, .ref bA)])
    (KK : ∀ (cn cb ct : CS) (v : HW) (x : SS) (y : PS) (z : MS) (H : Heap) (locs : List Loc), rR cn v y z → va_P G vwCl (fl (LW cI cQ eo n b t hq aH a g q cn cb ct v x y z)) H → va_D (lwA s) (fl (LW cI cQ eo n b t hq aH a g q cn cb ct v x y z)) → va_S (lwA s) s.heap H locs → W p l e room_1 s m #[Value.ref bA] below meth c H locs 70 1936 Q (F0 m 719 ls []))
    {cn cb ct : CS} {v : HW} {x : SS} {y : PS} {z : MS} {H : Heap} {locs : List Loc} (hR : rR cn v y z) (hP : va_P G vwCl (fl (LW cI cQ eo n b t hq aH a g q cn cb ct v x y z)) H) (hD : va_D (lwA s) (fl (LW cI cQ eo n b t hq aH a g q cn cb ct v x y z))) (hS : va_S (lwA s) s.heap H locs) : W p l e room_1 s m #[Value.ref bA] below meth c H locs 70 1936 Q (F0 m 331 ls []) := by
  obtain ⟨hx, hb, hr, hml, hown, hts, hX, hbl, hlocks, hgv⟩ := C0
  have hA : ∀ k : Nat, s.heap.size ≤ k → lwA s k := fun _ h => h
  have hbA : ¬ lwA s bA := Nat.not_le.mpr hbl
  obtain ⟨hvn, hjn, hde, hfr, hy, hV, hk, ht⟩ := k_pre hR
  have hm := hV.1
  have h1 : vp_in (nI i + 1) L := by rw [show (1 : Int32) = nI 1 from rfl, nI_add]; exact vp_in_nI (by omega) (by omega)
  have h2 : vp_in (nI i + 2) L := by rw [show (2 : Int32) = nI 2 from rfl, nI_add]; exact vp_in_nI (by omega) (by omega)
  have h3 : vp_in (nI i + 3) L := by rw [show (3 : Int32) = nI 3 from rfl, nI_add]; exact vp_in_nI (by omega) (by omega)
  obtain ⟨a1, ea1⟩ : ∃ w, w = xs (nI i + 1).toNatClampNeg := ⟨_, rfl⟩
  obtain ⟨a2, ea2⟩ : ∃ w, w = xs (nI i + 2).toNatClampNeg := ⟨_, rfl⟩
  obtain ⟨a3, ea3⟩ : ∃ w, w = xs (nI i + 3).toNatClampNeg := ⟨_, rfl⟩
  refine lv_aload_n hx hb dL_law_331 rfl (lv_at hl 2 rfl) ?_
  refine lv_aload_n hx hb dL_law_332 rfl (lv_at hl 3 rfl) ?_
  refine lv_iload_n hx hb dL_law_333 rfl (lv_at hl 0 rfl) ?_
  refine lv_iconst (v := 1) hx hb dL_law_334 (by decide) ?_
  refine lv_iadd hx hb dL_law_335 ?_
  refine va_sld hx hb hX hbl hbA hS h1 dL_law_336 ?_
  rw [← ea1]
  refine lv_aload_n hx hb dL_law_337 rfl (lv_at hl 3 rfl) ?_
  refine lv_iload_n hx hb dL_law_338 rfl (lv_at hl 0 rfl) ?_
  refine lv_iconst (v := 2) hx hb dL_law_339 (by decide) ?_
  refine lv_iadd hx hb dL_law_340 ?_
  refine va_sld hx hb hX hbl hbA hS h2 dL_law_341 ?_
  rw [← ea2]
  refine lv_aload_n hx hb dL_law_342 rfl (lv_at hl 3 rfl) ?_
  refine lv_iload_n hx hb dL_law_343 rfl (lv_at hl 0 rfl) ?_
  refine lv_iconst (v := 3) hx hb dL_law_344 (by decide) ?_
  refine lv_iadd hx hb dL_law_345 ?_
  refine va_sld hx hb hX hbl hbA hS h3 dL_law_346 ?_
  rw [← ea3]
  refine fmV (rest := []) (bs1 := LW cI cQ eo n b t hq aH a g q (fRing cn a1 a2 a3).2 cn ct (sRec v cn (fRing cn a1 a2 a3).1) x y z) ⟨hx, hb, hml, hown, hts⟩ (c_X4_ring l G cI cQ eo n b t hq aH a g cn cb ct v x y hvn hjn hde hfr hy a1 a2 a3 _) (cwV 3 hts (goodUp gL_law_X4_ring) rfl rfl rfl cd_X4_ring ⟨Nat.le_of_ble_eq_true rfl, Nat.le_of_ble_eq_true rfl⟩) hK hP hD hS hA [true, true, true, true, true, true, true, false] rfl rfl rfl rfl rfl 1 0 rfl rfl rfl rfl rfl hl.1 rfl (Nat.le_of_ble_eq_true rfl) dL_law_347 ⟨Nat.le_of_ble_eq_true rfl, Nat.le_of_ble_eq_true rfl⟩ (fun r H locs hr9 hP hD hS => ?_)
  subst hr9
  refine lv_aload_n hx hb dL_law_350 rfl (lv_at hl 1 rfl) ?_
  refine lv_aload_n hx hb dL_law_351 rfl (lv_at hl 3 rfl) ?_
  refine lv_iload_n hx hb dL_law_352 rfl (lv_at hl 0 rfl) ?_
  refine lv_iconst (v := 1) hx hb dL_law_353 (by decide) ?_
  refine lv_iadd hx hb dL_law_354 ?_
  refine va_sld hx hb hX hbl hbA hS h1 dL_law_355 ?_
  rw [← ea1]
  refine lv_aload_n hx hb dL_law_356 rfl (lv_at hl 3 rfl) ?_
  refine lv_iload_n hx hb dL_law_357 rfl (lv_at hl 0 rfl) ?_
  refine lv_iconst (v := 2) hx hb dL_law_358 (by decide) ?_
  refine lv_iadd hx hb dL_law_359 ?_
  refine va_sld hx hb hX hbl hbA hS h2 dL_law_360 ?_
  rw [← ea2]
  refine lv_aload_n hx hb dL_law_361 rfl (lv_at hl 3 rfl) ?_
  refine lv_iload_n hx hb dL_law_362 rfl (lv_at hl 0 rfl) ?_
  refine lv_iconst (v := 3) hx hb dL_law_363 (by decide) ?_
  refine lv_iadd hx hb dL_law_364 ?_
  refine va_sld hx hb hX hbl hbA hS h3 dL_law_365 ?_
  rw [← ea3]
  refine fmV (rest := [.int _]) (bs1 := LW cI cQ eo n b t hq aH a g q (fRing cn a1 a2 a3).2 cn ct (sRec v cn (fRing cn a1 a2 a3).1) x y (gAct z (gRing (kMs z) (knv cn) (knj cn) a1 a2 a3))) ⟨hx, hb, hml, hown, hts⟩ (c_X5_ring l G cI cQ q z (knv cn) (knj cn) hm a1 a2 a3 hk _) (cwV 3 hts (goodUp gL_law_X5_ring) rfl rfl rfl cd_X5_ring ⟨Nat.le_of_ble_eq_true rfl, Nat.le_of_ble_eq_true rfl⟩) hK hP hD hS hA [false, false, false, false, false, false, false, true] rfl rfl rfl rfl rfl 7 0 rfl rfl rfl rfl rfl hl.1 rfl (Nat.le_of_ble_eq_true rfl) dL_law_366 ⟨Nat.le_of_ble_eq_true rfl, Nat.le_of_ble_eq_true rfl⟩ (fun r H locs hr9 hP hD hS => ?_)
  subst hr9
  refine lv_icmp_eq (tgt := 719) hx hb dL_law_369 (by decide) (fun _ => ?_) (fun c9 => absurd (k_ring hR a1 a2 a3).1 c9)
  exact KK (fRing cn a1 a2 a3).2 cn ct (sRec v cn (fRing cn a1 a2 a3).1) x y (gAct z (gRing (kMs z) (knv cn) (knj cn) a1 a2 a3)) _ _ (k_ring hR a1 a2 a3).2 hP hD hS
set_option maxHeartbeats 4000000 in
set_option maxRecDepth 100000 in
theorem law_even {l : Launch} {p : Program} {e : Env} {s : State} {m : MethodId} {below : List Frame} {meth : Method} {c : Code} {Q : State → Prop} {bA L : Nat} {xs : Nat → Int32} {G : va_G} {cI cQ : ClassId} {eo : Nat} {n b t hq : Nat → Nat} {aH : Nat → Nat → Nat} {a : Nat} {g q : Nat → Nat} (hL : L ≤ 2048) (C0 : lw_At p s m meth c bA L xs) (hK : SF G cI cQ s) {i : Nat} (hi : i + 4 ≤ L) {ls : Array Slot} (hl : lv_has ls 4 [(3, .int (nI i)), (2, .ref (q 0)), (1, .ref eo), (0, .ref bA)])
    (KK : ∀ (cn cb ct : CS) (v : HW) (x : SS) (y : PS) (z : MS) (H : Heap) (locs : List Loc), rR cn v y z → va_P G vwCl (fl (LW cI cQ eo n b t hq aH a g q cn cb ct v x y z)) H → va_D (lwA s) (fl (LW cI cQ eo n b t hq aH a g q cn cb ct v x y z)) → va_S (lwA s) s.heap H locs → W p l e room_1 s m #[Value.ref bA] below meth c H locs 70 1936 Q (F0 m 719 ls []))
    {cn cb ct : CS} {v : HW} {x : SS} {y : PS} {z : MS} {H : Heap} {locs : List Loc} (hR : rR cn v y z) (hP : va_P G vwCl (fl (LW cI cQ eo n b t hq aH a g q cn cb ct v x y z)) H) (hD : va_D (lwA s) (fl (LW cI cQ eo n b t hq aH a g q cn cb ct v x y z))) (hS : va_S (lwA s) s.heap H locs) : W p l e room_1 s m #[Value.ref bA] below meth c H locs 70 1936 Q (F0 m 374 ls []) := by
  obtain ⟨hx, hb, hr, hml, hown, hts, hX, hbl, hlocks, hgv⟩ := C0
  have hA : ∀ k : Nat, s.heap.size ≤ k → lwA s k := fun _ h => h
  have hbA : ¬ lwA s bA := Nat.not_le.mpr hbl
  obtain ⟨hvn, hjn, hde, hfr, hy, hV, hk, ht⟩ := k_pre hR
  have hm := hV.1
  have h1 : vp_in (nI i + 1) L := by rw [show (1 : Int32) = nI 1 from rfl, nI_add]; exact vp_in_nI (by omega) (by omega)
  obtain ⟨a1, ea1⟩ : ∃ w, w = xs (nI i + 1).toNatClampNeg := ⟨_, rfl⟩
  refine lv_aload_n hx hb dL_law_374 rfl (lv_at hl 2 rfl) ?_
  refine lv_aload_n hx hb dL_law_375 rfl (lv_at hl 3 rfl) ?_
  refine lv_iload_n hx hb dL_law_376 rfl (lv_at hl 0 rfl) ?_
  refine lv_iconst (v := 1) hx hb dL_law_377 (by decide) ?_
  refine lv_iadd hx hb dL_law_378 ?_
  refine va_sld hx hb hX hbl hbA hS h1 dL_law_379 ?_
  rw [← ea1]
  refine fmV (rest := []) (bs1 := LW cI cQ eo n b t hq aH a g q (fWalk cn x a1).2.1 cn ct (sRec v cn (fWalk cn x a1).1) (fWalk cn x a1).2.2 y z) ⟨hx, hb, hml, hown, hts⟩ (c_X4_even l G cI cQ eo n b t hq aH a g cn cb ct v x y hvn hjn hde hfr hy a1 _) (cwV 1 hts (goodUp gL_law_X4_even) rfl rfl rfl cd_X4_even ⟨Nat.le_of_ble_eq_true rfl, Nat.le_of_ble_eq_true rfl⟩) hK hP hD hS hA [true, true, true, true, true, true, true, false] rfl rfl rfl rfl rfl 1 0 rfl rfl rfl rfl rfl hl.1 rfl (Nat.le_of_ble_eq_true rfl) dL_law_380 ⟨Nat.le_of_ble_eq_true rfl, Nat.le_of_ble_eq_true rfl⟩ (fun r H locs hr9 hP hD hS => ?_)
  subst hr9
  refine lv_aload_n hx hb dL_law_383 rfl (lv_at hl 1 rfl) ?_
  refine lv_aload_n hx hb dL_law_384 rfl (lv_at hl 3 rfl) ?_
  refine lv_iload_n hx hb dL_law_385 rfl (lv_at hl 0 rfl) ?_
  refine lv_iconst (v := 1) hx hb dL_law_386 (by decide) ?_
  refine lv_iadd hx hb dL_law_387 ?_
  refine va_sld hx hb hX hbl hbA hS h1 dL_law_388 ?_
  rw [← ea1]
  refine fmV (rest := [.int _]) (bs1 := LW cI cQ eo n b t hq aH a g q (fWalk cn x a1).2.1 cn ct (sRec v cn (fWalk cn x a1).1) (fWalk cn x a1).2.2 y (gActed (gEvB (uMbef z (kMs z)) (knv cn) (knj cn) a1).2 (gEvB (uMbef z (kMs z)) (knv cn) (knj cn) a1).1)) ⟨hx, hb, hml, hown, hts⟩ (c_X5_even l G cI cQ q z (knv cn) (knj cn)  a1 hV hk _) (cwV 1 hts (goodUp gL_law_X5_even) rfl rfl rfl cd_X5_even ⟨Nat.le_of_ble_eq_true rfl, Nat.le_of_ble_eq_true rfl⟩) hK hP hD hS hA [false, false, false, false, false, false, false, true] rfl rfl rfl rfl rfl 7 0 rfl rfl rfl rfl rfl hl.1 rfl (Nat.le_of_ble_eq_true rfl) dL_law_389 ⟨Nat.le_of_ble_eq_true rfl, Nat.le_of_ble_eq_true rfl⟩ (fun r H locs hr9 hP hD hS => ?_)
  subst hr9
  refine lv_icmp_eq (tgt := 719) hx hb dL_law_392 (by decide) (fun _ => ?_) (fun c9 => absurd (k_even hR x a1).1 c9)
  exact KK (fWalk cn x a1).2.1 cn ct (sRec v cn (fWalk cn x a1).1) (fWalk cn x a1).2.2 y (gActed (gEvB (uMbef z (kMs z)) (knv cn) (knj cn) a1).2 (gEvB (uMbef z (kMs z)) (knv cn) (knj cn) a1).1) _ _ (k_even hR x a1).2 hP hD hS
set_option maxHeartbeats 4000000 in
set_option maxRecDepth 100000 in
theorem law_close {l : Launch} {p : Program} {e : Env} {s : State} {m : MethodId} {below : List Frame} {meth : Method} {c : Code} {Q : State → Prop} {bA L : Nat} {xs : Nat → Int32} {G : va_G} {cI cQ : ClassId} {eo : Nat} {n b t hq : Nat → Nat} {aH : Nat → Nat → Nat} {a : Nat} {g q : Nat → Nat} (hL : L ≤ 2048) (C0 : lw_At p s m meth c bA L xs) (hK : SF G cI cQ s) {i : Nat} (hi : i + 4 ≤ L) {ls : Array Slot} (hl : lv_has ls 4 [(3, .int (nI i)), (2, .ref (q 0)), (1, .ref eo), (0, .ref bA)])
    (KK : ∀ (cn cb ct : CS) (v : HW) (x : SS) (y : PS) (z : MS) (H : Heap) (locs : List Loc), rR cn v y z → va_P G vwCl (fl (LW cI cQ eo n b t hq aH a g q cn cb ct v x y z)) H → va_D (lwA s) (fl (LW cI cQ eo n b t hq aH a g q cn cb ct v x y z)) → va_S (lwA s) s.heap H locs → W p l e room_1 s m #[Value.ref bA] below meth c H locs 70 1936 Q (F0 m 719 ls []))
    {cn cb ct : CS} {v : HW} {x : SS} {y : PS} {z : MS} {H : Heap} {locs : List Loc} (hR : rR cn v y z) (hP : va_P G vwCl (fl (LW cI cQ eo n b t hq aH a g q cn cb ct v x y z)) H) (hD : va_D (lwA s) (fl (LW cI cQ eo n b t hq aH a g q cn cb ct v x y z))) (hS : va_S (lwA s) s.heap H locs) : W p l e room_1 s m #[Value.ref bA] below meth c H locs 70 1936 Q (F0 m 397 ls []) := by
  obtain ⟨hx, hb, hr, hml, hown, hts, hX, hbl, hlocks, hgv⟩ := C0
  have hA : ∀ k : Nat, s.heap.size ≤ k → lwA s k := fun _ h => h
  have hbA : ¬ lwA s bA := Nat.not_le.mpr hbl
  obtain ⟨hvn, hjn, hde, hfr, hy, hV, hk, ht⟩ := k_pre hR
  have hm := hV.1
  have h1 : vp_in (nI i + 1) L := by rw [show (1 : Int32) = nI 1 from rfl, nI_add]; exact vp_in_nI (by omega) (by omega)
  obtain ⟨a1, ea1⟩ : ∃ w, w = xs (nI i + 1).toNatClampNeg := ⟨_, rfl⟩
  refine lv_aload_n hx hb dL_law_397 rfl (lv_at hl 2 rfl) ?_
  refine lv_aload_n hx hb dL_law_398 rfl (lv_at hl 3 rfl) ?_
  refine lv_iload_n hx hb dL_law_399 rfl (lv_at hl 0 rfl) ?_
  refine lv_iconst (v := 1) hx hb dL_law_400 (by decide) ?_
  refine lv_iadd hx hb dL_law_401 ?_
  refine va_sld hx hb hX hbl hbA hS h1 dL_law_402 ?_
  rw [← ea1]
  refine fmV (rest := []) (bs1 := LW cI cQ eo n b t hq aH a g q (fClose cn a1).2 cn ct (sRec v cn (fClose cn a1).1) x y z) ⟨hx, hb, hml, hown, hts⟩ (c_X4_close l G cI cQ eo n b t hq aH a g cn cb ct v x y hvn hjn hde hfr hy a1 _) (cwV 1 hts (goodUp gL_law_X4_close) rfl rfl rfl cd_X4_close ⟨Nat.le_of_ble_eq_true rfl, Nat.le_of_ble_eq_true rfl⟩) hK hP hD hS hA [true, true, true, true, true, true, true, false] rfl rfl rfl rfl rfl 1 0 rfl rfl rfl rfl rfl hl.1 rfl (Nat.le_of_ble_eq_true rfl) dL_law_403 ⟨Nat.le_of_ble_eq_true rfl, Nat.le_of_ble_eq_true rfl⟩ (fun r H locs hr9 hP hD hS => ?_)
  subst hr9
  refine lv_aload_n hx hb dL_law_406 rfl (lv_at hl 1 rfl) ?_
  refine lv_aload_n hx hb dL_law_407 rfl (lv_at hl 3 rfl) ?_
  refine lv_iload_n hx hb dL_law_408 rfl (lv_at hl 0 rfl) ?_
  refine lv_iconst (v := 1) hx hb dL_law_409 (by decide) ?_
  refine lv_iadd hx hb dL_law_410 ?_
  refine va_sld hx hb hX hbl hbA hS h1 dL_law_411 ?_
  rw [← ea1]
  refine fmV (rest := [.int _]) (bs1 := LW cI cQ eo n b t hq aH a g q (fClose cn a1).2 cn ct (sRec v cn (fClose cn a1).1) x y (gAct z (gCloses (kMs z) (knv cn) (knj cn) a1))) ⟨hx, hb, hml, hown, hts⟩ (c_X5_close l G cI cQ q z (knv cn) (knj cn) hm a1 hk _) (cwV 1 hts (goodUp gL_law_X5_close) rfl rfl rfl cd_X5_close ⟨Nat.le_of_ble_eq_true rfl, Nat.le_of_ble_eq_true rfl⟩) hK hP hD hS hA [false, false, false, false, false, false, false, true] rfl rfl rfl rfl rfl 7 0 rfl rfl rfl rfl rfl hl.1 rfl (Nat.le_of_ble_eq_true rfl) dL_law_412 ⟨Nat.le_of_ble_eq_true rfl, Nat.le_of_ble_eq_true rfl⟩ (fun r H locs hr9 hP hD hS => ?_)
  subst hr9
  refine lv_icmp_eq (tgt := 719) hx hb dL_law_415 (by decide) (fun _ => ?_) (fun c9 => absurd (k_close hR a1).1 c9)
  exact KK (fClose cn a1).2 cn ct (sRec v cn (fClose cn a1).1) x y (gAct z (gCloses (kMs z) (knv cn) (knj cn) a1)) _ _ (k_close hR a1).2 hP hD hS
set_option maxHeartbeats 4000000 in
set_option maxRecDepth 100000 in
theorem law_open {l : Launch} {p : Program} {e : Env} {s : State} {m : MethodId} {below : List Frame} {meth : Method} {c : Code} {Q : State → Prop} {bA L : Nat} {xs : Nat → Int32} {G : va_G} {cI cQ : ClassId} {eo : Nat} {n b t hq : Nat → Nat} {aH : Nat → Nat → Nat} {a : Nat} {g q : Nat → Nat} (hL : L ≤ 2048) (C0 : lw_At p s m meth c bA L xs) (hK : SF G cI cQ s) {i : Nat} (hi : i + 4 ≤ L) {ls : Array Slot} (hl : lv_has ls 4 [(3, .int (nI i)), (2, .ref (q 0)), (1, .ref eo), (0, .ref bA)])
    (KK : ∀ (cn cb ct : CS) (v : HW) (x : SS) (y : PS) (z : MS) (H : Heap) (locs : List Loc), rR cn v y z → va_P G vwCl (fl (LW cI cQ eo n b t hq aH a g q cn cb ct v x y z)) H → va_D (lwA s) (fl (LW cI cQ eo n b t hq aH a g q cn cb ct v x y z)) → va_S (lwA s) s.heap H locs → W p l e room_1 s m #[Value.ref bA] below meth c H locs 70 1936 Q (F0 m 719 ls []))
    {cn cb ct : CS} {v : HW} {x : SS} {y : PS} {z : MS} {H : Heap} {locs : List Loc} (hR : rR cn v y z) (hP : va_P G vwCl (fl (LW cI cQ eo n b t hq aH a g q cn cb ct v x y z)) H) (hD : va_D (lwA s) (fl (LW cI cQ eo n b t hq aH a g q cn cb ct v x y z))) (hS : va_S (lwA s) s.heap H locs) : W p l e room_1 s m #[Value.ref bA] below meth c H locs 70 1936 Q (F0 m 420 ls []) := by
  obtain ⟨hx, hb, hr, hml, hown, hts, hX, hbl, hlocks, hgv⟩ := C0
  have hA : ∀ k : Nat, s.heap.size ≤ k → lwA s k := fun _ h => h
  have hbA : ¬ lwA s bA := Nat.not_le.mpr hbl
  obtain ⟨hvn, hjn, hde, hfr, hy, hV, hk, ht⟩ := k_pre hR
  have hm := hV.1
  have h1 : vp_in (nI i + 1) L := by rw [show (1 : Int32) = nI 1 from rfl, nI_add]; exact vp_in_nI (by omega) (by omega)
  obtain ⟨a1, ea1⟩ : ∃ w, w = xs (nI i + 1).toNatClampNeg := ⟨_, rfl⟩
  refine lv_aload_n hx hb dL_law_420 rfl (lv_at hl 2 rfl) ?_
  refine lv_aload_n hx hb dL_law_421 rfl (lv_at hl 3 rfl) ?_
  refine lv_iload_n hx hb dL_law_422 rfl (lv_at hl 0 rfl) ?_
  refine lv_iconst (v := 1) hx hb dL_law_423 (by decide) ?_
  refine lv_iadd hx hb dL_law_424 ?_
  refine va_sld hx hb hX hbl hbA hS h1 dL_law_425 ?_
  rw [← ea1]
  refine fmV (rest := []) (bs1 := LW cI cQ eo n b t hq aH a g q (fOpen cn a1).2 cn ct (sRec v cn (fOpen cn a1).1) x y z) ⟨hx, hb, hml, hown, hts⟩ (c_X4_open l G cI cQ eo n b t hq aH a g cn cb ct v x y hvn hjn hde hfr hy a1 _) (cwV 1 hts (goodUp gL_law_X4_open) rfl rfl rfl cd_X4_open ⟨Nat.le_of_ble_eq_true rfl, Nat.le_of_ble_eq_true rfl⟩) hK hP hD hS hA [true, true, true, true, true, true, true, false] rfl rfl rfl rfl rfl 1 0 rfl rfl rfl rfl rfl hl.1 rfl (Nat.le_of_ble_eq_true rfl) dL_law_426 ⟨Nat.le_of_ble_eq_true rfl, Nat.le_of_ble_eq_true rfl⟩ (fun r H locs hr9 hP hD hS => ?_)
  subst hr9
  refine lv_aload_n hx hb dL_law_429 rfl (lv_at hl 1 rfl) ?_
  refine lv_aload_n hx hb dL_law_430 rfl (lv_at hl 3 rfl) ?_
  refine lv_iload_n hx hb dL_law_431 rfl (lv_at hl 0 rfl) ?_
  refine lv_iconst (v := 1) hx hb dL_law_432 (by decide) ?_
  refine lv_iadd hx hb dL_law_433 ?_
  refine va_sld hx hb hX hbl hbA hS h1 dL_law_434 ?_
  rw [← ea1]
  refine fmV (rest := [.int _]) (bs1 := LW cI cQ eo n b t hq aH a g q (fOpen cn a1).2 cn ct (sRec v cn (fOpen cn a1).1) x y (gOpen z (knv cn) a1).2) ⟨hx, hb, hml, hown, hts⟩ (c_X5_open l G cI cQ q z (knv cn) (knj cn) hm a1 hk _) (cwV 1 hts (goodUp gL_law_X5_open) rfl rfl rfl cd_X5_open ⟨Nat.le_of_ble_eq_true rfl, Nat.le_of_ble_eq_true rfl⟩) hK hP hD hS hA [false, false, false, false, false, false, false, true] rfl rfl rfl rfl rfl 7 0 rfl rfl rfl rfl rfl hl.1 rfl (Nat.le_of_ble_eq_true rfl) dL_law_435 ⟨Nat.le_of_ble_eq_true rfl, Nat.le_of_ble_eq_true rfl⟩ (fun r H locs hr9 hP hD hS => ?_)
  subst hr9
  refine lv_icmp_eq (tgt := 719) hx hb dL_law_438 (by decide) (fun _ => ?_) (fun c9 => absurd (k_open hR a1).1 c9)
  exact KK (fOpen cn a1).2 cn ct (sRec v cn (fOpen cn a1).1) x y (gOpen z (knv cn) a1).2 _ _ (k_open hR a1).2 hP hD hS
set_option maxHeartbeats 4000000 in
set_option maxRecDepth 100000 in
theorem law_undo {l : Launch} {p : Program} {e : Env} {s : State} {m : MethodId} {below : List Frame} {meth : Method} {c : Code} {Q : State → Prop} {bA L : Nat} {xs : Nat → Int32} {G : va_G} {cI cQ : ClassId} {eo : Nat} {n b t hq : Nat → Nat} {aH : Nat → Nat → Nat} {a : Nat} {g q : Nat → Nat} (hL : L ≤ 2048) (C0 : lw_At p s m meth c bA L xs) (hK : SF G cI cQ s) {i : Nat} (hi : i + 4 ≤ L) {ls : Array Slot} (hl : lv_has ls 4 [(3, .int (nI i)), (2, .ref (q 0)), (1, .ref eo), (0, .ref bA)])
    (KK : ∀ (cn cb ct : CS) (v : HW) (x : SS) (y : PS) (z : MS) (H : Heap) (locs : List Loc), rR cn v y z → va_P G vwCl (fl (LW cI cQ eo n b t hq aH a g q cn cb ct v x y z)) H → va_D (lwA s) (fl (LW cI cQ eo n b t hq aH a g q cn cb ct v x y z)) → va_S (lwA s) s.heap H locs → W p l e room_1 s m #[Value.ref bA] below meth c H locs 70 1936 Q (F0 m 719 ls []))
    {cn cb ct : CS} {v : HW} {x : SS} {y : PS} {z : MS} {H : Heap} {locs : List Loc} (hR : rR cn v y z) (hP : va_P G vwCl (fl (LW cI cQ eo n b t hq aH a g q cn cb ct v x y z)) H) (hD : va_D (lwA s) (fl (LW cI cQ eo n b t hq aH a g q cn cb ct v x y z))) (hS : va_S (lwA s) s.heap H locs) : W p l e room_1 s m #[Value.ref bA] below meth c H locs 70 1936 Q (F0 m 443 ls []) := by
  obtain ⟨hx, hb, hr, hml, hown, hts, hX, hbl, hlocks, hgv⟩ := C0
  have hA : ∀ k : Nat, s.heap.size ≤ k → lwA s k := fun _ h => h
  have hbA : ¬ lwA s bA := Nat.not_le.mpr hbl
  obtain ⟨hvn, hjn, hde, hfr, hy, hV, hk, ht⟩ := k_pre hR
  have hm := hV.1
  refine lv_aload_n hx hb dL_law_443 rfl (lv_at hl 2 rfl) ?_
  refine fmV (rest := []) (bs1 := LW cI cQ eo n b t hq aH a g q (cUndo v cn) cb ct (sUndo v) x y z) ⟨hx, hb, hml, hown, hts⟩ (c_X4_undo l G cI cQ eo n b t hq aH a g cn cb ct v x y hvn hjn hde hfr hy _) (cwV 0 hts (goodUp gL_law_X4_undo) rfl rfl rfl cd_X4_undo ⟨Nat.le_of_ble_eq_true rfl, Nat.le_of_ble_eq_true rfl⟩) hK hP hD hS hA [true, true, true, true, true, true, true, false] rfl rfl rfl rfl rfl 1 0 rfl rfl rfl rfl rfl hl.1 rfl (Nat.le_of_ble_eq_true rfl) dL_law_444 ⟨Nat.le_of_ble_eq_true rfl, Nat.le_of_ble_eq_true rfl⟩ (fun r H locs hr9 hP hD hS => ?_)
  subst hr9
  refine lv_aload_n hx hb dL_law_447 rfl (lv_at hl 1 rfl) ?_
  refine fmV (rest := [.int _]) (bs1 := LW cI cQ eo n b t hq aH a g q (cUndo v cn) cb ct (sUndo v) x y (gUndo z)) ⟨hx, hb, hml, hown, hts⟩ (c_X5_undo l G cI cQ q z (knv cn) (knj cn) hm hk _) (cwV 0 hts (goodUp gL_law_X5_undo) rfl rfl rfl cd_X5_undo ⟨Nat.le_of_ble_eq_true rfl, Nat.le_of_ble_eq_true rfl⟩) hK hP hD hS hA [false, false, false, false, false, false, false, true] rfl rfl rfl rfl rfl 7 0 rfl rfl rfl rfl rfl hl.1 rfl (Nat.le_of_ble_eq_true rfl) dL_law_448 ⟨Nat.le_of_ble_eq_true rfl, Nat.le_of_ble_eq_true rfl⟩ (fun r H locs hr9 hP hD hS => ?_)
  subst hr9
  refine lv_icmp_eq (tgt := 719) hx hb dL_law_451 (by decide) (fun _ => ?_) (fun c9 => absurd (k_undo hR).1 c9)
  exact KK (cUndo v cn) cb ct (sUndo v) x y (gUndo z) _ _ (k_undo hR).2 hP hD hS
set_option maxHeartbeats 4000000 in
set_option maxRecDepth 100000 in
theorem law_append {l : Launch} {p : Program} {e : Env} {s : State} {m : MethodId} {below : List Frame} {meth : Method} {c : Code} {Q : State → Prop} {bA L : Nat} {xs : Nat → Int32} {G : va_G} {cI cQ : ClassId} {eo : Nat} {n b t hq : Nat → Nat} {aH : Nat → Nat → Nat} {a : Nat} {g q : Nat → Nat} (hL : L ≤ 2048) (C0 : lw_At p s m meth c bA L xs) (hK : SF G cI cQ s) {i : Nat} (hi : i + 4 ≤ L) {ls : Array Slot} (hl : lv_has ls 4 [(3, .int (nI i)), (2, .ref (q 0)), (1, .ref eo), (0, .ref bA)])
    (KK : ∀ (cn cb ct : CS) (v : HW) (x : SS) (y : PS) (z : MS) (H : Heap) (locs : List Loc), rR cn v y z → va_P G vwCl (fl (LW cI cQ eo n b t hq aH a g q cn cb ct v x y z)) H → va_D (lwA s) (fl (LW cI cQ eo n b t hq aH a g q cn cb ct v x y z)) → va_S (lwA s) s.heap H locs → W p l e room_1 s m #[Value.ref bA] below meth c H locs 70 1936 Q (F0 m 719 ls []))
    {cn cb ct : CS} {v : HW} {x : SS} {y : PS} {z : MS} {H : Heap} {locs : List Loc} (hR : rR cn v y z) (hP : va_P G vwCl (fl (LW cI cQ eo n b t hq aH a g q cn cb ct v x y z)) H) (hD : va_D (lwA s) (fl (LW cI cQ eo n b t hq aH a g q cn cb ct v x y z))) (hS : va_S (lwA s) s.heap H locs) : W p l e room_1 s m #[Value.ref bA] below meth c H locs 70 1936 Q (F0 m 456 ls []) := by
  obtain ⟨hx, hb, hr, hml, hown, hts, hX, hbl, hlocks, hgv⟩ := C0
  have hA : ∀ k : Nat, s.heap.size ≤ k → lwA s k := fun _ h => h
  have hbA : ¬ lwA s bA := Nat.not_le.mpr hbl
  obtain ⟨hvn, hjn, hde, hfr, hy, hV, hk, ht⟩ := k_pre hR
  have hm := hV.1
  have h1 : vp_in (nI i + 1) L := by rw [show (1 : Int32) = nI 1 from rfl, nI_add]; exact vp_in_nI (by omega) (by omega)
  obtain ⟨a1, ea1⟩ : ∃ w, w = xs (nI i + 1).toNatClampNeg := ⟨_, rfl⟩
  refine lv_aload_n hx hb dL_law_456 rfl (lv_at hl 2 rfl) ?_
  refine lv_aload_n hx hb dL_law_457 rfl (lv_at hl 3 rfl) ?_
  refine lv_iload_n hx hb dL_law_458 rfl (lv_at hl 0 rfl) ?_
  refine lv_iconst (v := 1) hx hb dL_law_459 (by decide) ?_
  refine lv_iadd hx hb dL_law_460 ?_
  refine va_sld hx hb hX hbl hbA hS h1 dL_law_461 ?_
  rw [← ea1]
  refine fmV (rest := []) (bs1 := LW cI cQ eo n b t hq aH a g q cn cb ct v x (fAdd y a1).2 z) ⟨hx, hb, hml, hown, hts⟩ (c_X4_append l G cI cQ eo n b t hq aH a g cn cb ct v x y hvn hjn hde hfr hy a1 _) (cwV 1 hts (goodUp gL_law_X4_append) rfl rfl rfl cd_X4_append ⟨Nat.le_of_ble_eq_true rfl, Nat.le_of_ble_eq_true rfl⟩) hK hP hD hS hA [true, true, true, true, true, true, true, false] rfl rfl rfl rfl rfl 1 0 rfl rfl rfl rfl rfl hl.1 rfl (Nat.le_of_ble_eq_true rfl) dL_law_462 ⟨Nat.le_of_ble_eq_true rfl, Nat.le_of_ble_eq_true rfl⟩ (fun r H locs hr9 hP hD hS => ?_)
  subst hr9
  refine lv_aload_n hx hb dL_law_465 rfl (lv_at hl 1 rfl) ?_
  refine lv_aload_n hx hb dL_law_466 rfl (lv_at hl 3 rfl) ?_
  refine lv_iload_n hx hb dL_law_467 rfl (lv_at hl 0 rfl) ?_
  refine lv_iconst (v := 1) hx hb dL_law_468 (by decide) ?_
  refine lv_iadd hx hb dL_law_469 ?_
  refine va_sld hx hb hX hbl hbA hS h1 dL_law_470 ?_
  rw [← ea1]
  refine fmV (rest := [.int _]) (bs1 := LW cI cQ eo n b t hq aH a g q cn cb ct v x (fAdd y a1).2 (if pIn a1 1 255 then (if nI (kMtyped z) = 100 then z else uMtyped (uMtext z (upd (kMtext z) (kMtyped z) a1)) (kMtyped z + 1)) else z)) ⟨hx, hb, hml, hown, hts⟩ (c_X5_append l G cI cQ q z (knv cn) (knj cn) hm a1 ht _) (cwV 1 hts (goodUp gL_law_X5_append) rfl rfl rfl cd_X5_append ⟨Nat.le_of_ble_eq_true rfl, Nat.le_of_ble_eq_true rfl⟩) hK hP hD hS hA [false, false, false, false, false, false, false, true] rfl rfl rfl rfl rfl 7 0 rfl rfl rfl rfl rfl hl.1 rfl (Nat.le_of_ble_eq_true rfl) dL_law_471 ⟨Nat.le_of_ble_eq_true rfl, Nat.le_of_ble_eq_true rfl⟩ (fun r H locs hr9 hP hD hS => ?_)
  subst hr9
  refine lv_icmp_eq (tgt := 719) hx hb dL_law_474 (by decide) (fun _ => ?_) (fun c9 => absurd (k_append hR a1).1 c9)
  exact KK cn cb ct v x (fAdd y a1).2 (if pIn a1 1 255 then (if nI (kMtyped z) = 100 then z else uMtyped (uMtext z (upd (kMtext z) (kMtyped z) a1)) (kMtyped z + 1)) else z) _ _ (k_append hR a1).2 hP hD hS
set_option maxHeartbeats 4000000 in
set_option maxRecDepth 100000 in
theorem law_clearText {l : Launch} {p : Program} {e : Env} {s : State} {m : MethodId} {below : List Frame} {meth : Method} {c : Code} {Q : State → Prop} {bA L : Nat} {xs : Nat → Int32} {G : va_G} {cI cQ : ClassId} {eo : Nat} {n b t hq : Nat → Nat} {aH : Nat → Nat → Nat} {a : Nat} {g q : Nat → Nat} (hL : L ≤ 2048) (C0 : lw_At p s m meth c bA L xs) (hK : SF G cI cQ s) {i : Nat} (hi : i + 4 ≤ L) {ls : Array Slot} (hl : lv_has ls 4 [(3, .int (nI i)), (2, .ref (q 0)), (1, .ref eo), (0, .ref bA)])
    (KK : ∀ (cn cb ct : CS) (v : HW) (x : SS) (y : PS) (z : MS) (H : Heap) (locs : List Loc), rR cn v y z → va_P G vwCl (fl (LW cI cQ eo n b t hq aH a g q cn cb ct v x y z)) H → va_D (lwA s) (fl (LW cI cQ eo n b t hq aH a g q cn cb ct v x y z)) → va_S (lwA s) s.heap H locs → W p l e room_1 s m #[Value.ref bA] below meth c H locs 70 1936 Q (F0 m 719 ls []))
    {cn cb ct : CS} {v : HW} {x : SS} {y : PS} {z : MS} {H : Heap} {locs : List Loc} (hR : rR cn v y z) (hP : va_P G vwCl (fl (LW cI cQ eo n b t hq aH a g q cn cb ct v x y z)) H) (hD : va_D (lwA s) (fl (LW cI cQ eo n b t hq aH a g q cn cb ct v x y z))) (hS : va_S (lwA s) s.heap H locs) : W p l e room_1 s m #[Value.ref bA] below meth c H locs 70 1936 Q (F0 m 479 ls []) := by
  obtain ⟨hx, hb, hr, hml, hown, hts, hX, hbl, hlocks, hgv⟩ := C0
  have hA : ∀ k : Nat, s.heap.size ≤ k → lwA s k := fun _ h => h
  have hbA : ¬ lwA s bA := Nat.not_le.mpr hbl
  obtain ⟨hvn, hjn, hde, hfr, hy, hV, hk, ht⟩ := k_pre hR
  have hm := hV.1
  refine lv_aload_n hx hb dL_law_479 rfl (lv_at hl 2 rfl) ?_
  refine fmV (rest := []) (bs1 := LW cI cQ eo n b t hq aH a g q cn cb ct v x (uPlen y 0) z) ⟨hx, hb, hml, hown, hts⟩ (c_X4_clearText l G cI cQ eo n b t hq aH a g cn cb ct v x y hvn hjn hde hfr hy _) (cwV 0 hts (goodUp gL_law_X4_clearText) rfl rfl rfl cd_X4_clearText ⟨Nat.le_of_ble_eq_true rfl, Nat.le_of_ble_eq_true rfl⟩) hK hP hD hS hA [true, true, true, true, true, true, true, false] rfl rfl rfl rfl rfl 1 0 rfl rfl rfl rfl rfl hl.1 rfl (Nat.le_of_ble_eq_true rfl) dL_law_480 ⟨Nat.le_of_ble_eq_true rfl, Nat.le_of_ble_eq_true rfl⟩ (fun r H locs hr9 hP hD hS => ?_)
  subst hr9
  refine lv_aload_n hx hb dL_law_483 rfl (lv_at hl 1 rfl) ?_
  refine fmV (rest := [.int _]) (bs1 := LW cI cQ eo n b t hq aH a g q cn cb ct v x (uPlen y 0) (uMtyped z 0)) ⟨hx, hb, hml, hown, hts⟩ (c_X5_clearText l G cI cQ q z (knv cn) (knj cn) hm  _) (cwV 0 hts (goodUp gL_law_X5_clearText) rfl rfl rfl cd_X5_clearText ⟨Nat.le_of_ble_eq_true rfl, Nat.le_of_ble_eq_true rfl⟩) hK hP hD hS hA [false, false, false, false, false, false, false, true] rfl rfl rfl rfl rfl 7 0 rfl rfl rfl rfl rfl hl.1 rfl (Nat.le_of_ble_eq_true rfl) dL_law_484 ⟨Nat.le_of_ble_eq_true rfl, Nat.le_of_ble_eq_true rfl⟩ (fun r H locs hr9 hP hD hS => ?_)
  subst hr9
  refine lv_icmp_eq (tgt := 719) hx hb dL_law_487 (by decide) (fun _ => ?_) (fun c9 => absurd (k_clear hR).1 c9)
  exact KK cn cb ct v x (uPlen y 0) (uMtyped z 0) _ _ (k_clear hR).2 hP hD hS
set_option maxHeartbeats 4000000 in
set_option maxRecDepth 100000 in
theorem law_run {l : Launch} {p : Program} {e : Env} {s : State} {m : MethodId} {below : List Frame} {meth : Method} {c : Code} {Q : State → Prop} {bA L : Nat} {xs : Nat → Int32} {G : va_G} {cI cQ : ClassId} {eo : Nat} {n b t hq : Nat → Nat} {aH : Nat → Nat → Nat} {a : Nat} {g q : Nat → Nat} (hL : L ≤ 2048) (C0 : lw_At p s m meth c bA L xs) (hK : SF G cI cQ s) {i : Nat} (hi : i + 4 ≤ L) {ls : Array Slot} (hl : lv_has ls 4 [(3, .int (nI i)), (2, .ref (q 0)), (1, .ref eo), (0, .ref bA)])
    (KK : ∀ (cn cb ct : CS) (v : HW) (x : SS) (y : PS) (z : MS) (H : Heap) (locs : List Loc), rR cn v y z → va_P G vwCl (fl (LW cI cQ eo n b t hq aH a g q cn cb ct v x y z)) H → va_D (lwA s) (fl (LW cI cQ eo n b t hq aH a g q cn cb ct v x y z)) → va_S (lwA s) s.heap H locs → W p l e room_1 s m #[Value.ref bA] below meth c H locs 70 1936 Q (F0 m 719 ls []))
    {cn cb ct : CS} {v : HW} {x : SS} {y : PS} {z : MS} {H : Heap} {locs : List Loc} (hR : rR cn v y z) (hP : va_P G vwCl (fl (LW cI cQ eo n b t hq aH a g q cn cb ct v x y z)) H) (hD : va_D (lwA s) (fl (LW cI cQ eo n b t hq aH a g q cn cb ct v x y z))) (hS : va_S (lwA s) s.heap H locs) : W p l e room_1 s m #[Value.ref bA] below meth c H locs 70 1936 Q (F0 m 492 ls []) := by
  obtain ⟨hx, hb, hr, hml, hown, hts, hX, hbl, hlocks, hgv⟩ := C0
  have hA : ∀ k : Nat, s.heap.size ≤ k → lwA s k := fun _ h => h
  have hbA : ¬ lwA s bA := Nat.not_le.mpr hbl
  obtain ⟨hvn, hjn, hde, hfr, hy, hV, hk, ht⟩ := k_pre hR
  have hm := hV.1
  refine lv_aload_n hx hb dL_law_492 rfl (lv_at hl 2 rfl) ?_
  refine fmV (rest := []) (bs1 := LW cI cQ eo n b t hq aH a g q (if (zo (fOrders cn x y)) < 0 then cn else zc (fOrders cn x y)) cn ct (sRec v cn (zo (fOrders cn x y))) (zx (fOrders cn x y)) (if (zo (fOrders cn x y)) < 0 then zy (fOrders cn x y) else uPlen (zy (fOrders cn x y)) 0) z) ⟨hx, hb, hml, hown, hts⟩ (c_X4_run l G cI cQ eo n b t hq aH a g cn cb ct v x y hvn hjn hde hfr hy _) (cwV 0 hts (goodUp gL_law_X4_run) rfl rfl rfl cd_X4_run ⟨Nat.le_of_ble_eq_true rfl, Nat.le_of_ble_eq_true rfl⟩) hK hP hD hS hA [true, true, true, true, true, true, true, false] rfl rfl rfl rfl rfl 1 0 rfl rfl rfl rfl rfl hl.1 rfl (Nat.le_of_ble_eq_true rfl) dL_law_493 ⟨Nat.le_of_ble_eq_true rfl, Nat.le_of_ble_eq_true rfl⟩ (fun r H locs hr9 hP hD hS => ?_)
  subst hr9
  refine lv_aload_n hx hb dL_law_496 rfl (lv_at hl 1 rfl) ?_
  refine fmV (rest := [.int _]) (bs1 := LW cI cQ eo n b t hq aH a g q (if (zo (fOrders cn x y)) < 0 then cn else zc (fOrders cn x y)) cn ct (sRec v cn (zo (fOrders cn x y))) (zx (fOrders cn x y)) (if (zo (fOrders cn x y)) < 0 then zy (fOrders cn x y) else uPlen (zy (fOrders cn x y)) 0) (gRun z (knv cn)).2) ⟨hx, hb, hml, hown, hts⟩ (c_X5_run l G cI cQ q z (knv cn) (knj cn)  hV ht hk _) (cwV 0 hts (goodUp gL_law_X5_run) rfl rfl rfl cd_X5_run ⟨Nat.le_of_ble_eq_true rfl, Nat.le_of_ble_eq_true rfl⟩) hK hP hD hS hA [false, false, false, false, false, false, false, true] rfl rfl rfl rfl rfl 7 0 rfl rfl rfl rfl rfl hl.1 rfl (Nat.le_of_ble_eq_true rfl) dL_law_497 ⟨Nat.le_of_ble_eq_true rfl, Nat.le_of_ble_eq_true rfl⟩ (fun r H locs hr9 hP hD hS => ?_)
  subst hr9
  refine lv_icmp_eq (tgt := 719) hx hb dL_law_500 (by decide) (fun _ => ?_) (fun c9 => absurd (k_run hR x).1 c9)
  exact KK (if (zo (fOrders cn x y)) < 0 then cn else zc (fOrders cn x y)) cn ct (sRec v cn (zo (fOrders cn x y))) (zx (fOrders cn x y)) (if (zo (fOrders cn x y)) < 0 then zy (fOrders cn x y) else uPlen (zy (fOrders cn x y)) 0) (gRun z (knv cn)).2 _ _ (k_run hR x).2 hP hD hS
set_option maxHeartbeats 4000000 in
set_option maxRecDepth 100000 in
theorem law_count {l : Launch} {p : Program} {e : Env} {s : State} {m : MethodId} {below : List Frame} {meth : Method} {c : Code} {Q : State → Prop} {bA L : Nat} {xs : Nat → Int32} {G : va_G} {cI cQ : ClassId} {eo : Nat} {n b t hq : Nat → Nat} {aH : Nat → Nat → Nat} {a : Nat} {g q : Nat → Nat} (hL : L ≤ 2048) (C0 : lw_At p s m meth c bA L xs) (hK : SF G cI cQ s) {i : Nat} (hi : i + 4 ≤ L) {ls : Array Slot} (hl : lv_has ls 4 [(3, .int (nI i)), (2, .ref (q 0)), (1, .ref eo), (0, .ref bA)])
    (KK : ∀ (cn cb ct : CS) (v : HW) (x : SS) (y : PS) (z : MS) (H : Heap) (locs : List Loc), rR cn v y z → va_P G vwCl (fl (LW cI cQ eo n b t hq aH a g q cn cb ct v x y z)) H → va_D (lwA s) (fl (LW cI cQ eo n b t hq aH a g q cn cb ct v x y z)) → va_S (lwA s) s.heap H locs → W p l e room_1 s m #[Value.ref bA] below meth c H locs 70 1936 Q (F0 m 719 ls []))
    {cn cb ct : CS} {v : HW} {x : SS} {y : PS} {z : MS} {H : Heap} {locs : List Loc} (hR : rR cn v y z) (hP : va_P G vwCl (fl (LW cI cQ eo n b t hq aH a g q cn cb ct v x y z)) H) (hD : va_D (lwA s) (fl (LW cI cQ eo n b t hq aH a g q cn cb ct v x y z))) (hS : va_S (lwA s) s.heap H locs) : W p l e room_1 s m #[Value.ref bA] below meth c H locs 70 1936 Q (F0 m 505 ls []) := by
  obtain ⟨hx, hb, hr, hml, hown, hts, hX, hbl, hlocks, hgv⟩ := C0
  have hA : ∀ k : Nat, s.heap.size ≤ k → lwA s k := fun _ h => h
  have hbA : ¬ lwA s bA := Nat.not_le.mpr hbl
  obtain ⟨hvn, hjn, hde, hfr, hy, hV, hk, ht⟩ := k_pre hR
  have hm := hV.1
  have h1 : vp_in (nI i + 1) L := by rw [show (1 : Int32) = nI 1 from rfl, nI_add]; exact vp_in_nI (by omega) (by omega)
  obtain ⟨a1, ea1⟩ : ∃ w, w = xs (nI i + 1).toNatClampNeg := ⟨_, rfl⟩
  refine lv_aload_n hx hb dL_law_505 rfl (lv_at hl 2 rfl) ?_
  refine lv_aload_n hx hb dL_law_506 rfl (lv_at hl 3 rfl) ?_
  refine lv_iload_n hx hb dL_law_507 rfl (lv_at hl 0 rfl) ?_
  refine lv_iconst (v := 1) hx hb dL_law_508 (by decide) ?_
  refine lv_iadd hx hb dL_law_509 ?_
  refine va_sld hx hb hX hbl hbA hS h1 dL_law_510 ?_
  rw [← ea1]
  refine fpV (rest := []) ⟨hx, hb, hml, hown, hts⟩ (c_X4_count l G cI cQ eo n b t hq aH a g cn cb ct v x y hvn hjn hde hfr hy a1) (cwV 1 hts (goodUp gL_law_X4_count) rfl rfl rfl cd_X4_count ⟨Nat.le_of_ble_eq_true rfl, Nat.le_of_ble_eq_true rfl⟩) hK hP [true, true, true, true, true, true, true, false] rfl 1 0 rfl rfl rfl rfl rfl hl.1 rfl (Nat.le_of_ble_eq_true rfl) dL_law_511 ⟨Nat.le_of_ble_eq_true rfl, Nat.le_of_ble_eq_true rfl⟩ ?_
  refine lv_aload_n hx hb dL_law_514 rfl (lv_at hl 1 rfl) ?_
  refine lv_aload_n hx hb dL_law_515 rfl (lv_at hl 3 rfl) ?_
  refine lv_iload_n hx hb dL_law_516 rfl (lv_at hl 0 rfl) ?_
  refine lv_iconst (v := 1) hx hb dL_law_517 (by decide) ?_
  refine lv_iadd hx hb dL_law_518 ?_
  refine va_sld hx hb hX hbl hbA hS h1 dL_law_519 ?_
  rw [← ea1]
  refine fpV (rest := [.int _]) ⟨hx, hb, hml, hown, hts⟩ (c_X5_count l G cI cQ q z (knv cn) (knj cn) hm a1) (cwV 1 hts (goodUp gL_law_X5_count) rfl rfl rfl cd_X5_count ⟨Nat.le_of_ble_eq_true rfl, Nat.le_of_ble_eq_true rfl⟩) hK hP [false, false, false, false, false, false, false, true] rfl 7 0 rfl rfl rfl rfl rfl hl.1 rfl (Nat.le_of_ble_eq_true rfl) dL_law_520 ⟨Nat.le_of_ble_eq_true rfl, Nat.le_of_ble_eq_true rfl⟩ ?_
  refine lv_icmp_eq (tgt := 719) hx hb dL_law_523 (by decide) (fun _ => ?_) (fun c9 => absurd (k_count hR a1) c9)
  exact KK cn cb ct v x y z _ _ hR hP hD hS
set_option maxHeartbeats 4000000 in
set_option maxRecDepth 100000 in
theorem law_server {l : Launch} {p : Program} {e : Env} {s : State} {m : MethodId} {below : List Frame} {meth : Method} {c : Code} {Q : State → Prop} {bA L : Nat} {xs : Nat → Int32} {G : va_G} {cI cQ : ClassId} {eo : Nat} {n b t hq : Nat → Nat} {aH : Nat → Nat → Nat} {a : Nat} {g q : Nat → Nat} (hL : L ≤ 2048) (C0 : lw_At p s m meth c bA L xs) (hK : SF G cI cQ s) {i : Nat} (hi : i + 4 ≤ L) {ls : Array Slot} (hl : lv_has ls 4 [(3, .int (nI i)), (2, .ref (q 0)), (1, .ref eo), (0, .ref bA)])
    (KK : ∀ (cn cb ct : CS) (v : HW) (x : SS) (y : PS) (z : MS) (H : Heap) (locs : List Loc), rR cn v y z → va_P G vwCl (fl (LW cI cQ eo n b t hq aH a g q cn cb ct v x y z)) H → va_D (lwA s) (fl (LW cI cQ eo n b t hq aH a g q cn cb ct v x y z)) → va_S (lwA s) s.heap H locs → W p l e room_1 s m #[Value.ref bA] below meth c H locs 70 1936 Q (F0 m 719 ls []))
    {cn cb ct : CS} {v : HW} {x : SS} {y : PS} {z : MS} {H : Heap} {locs : List Loc} (hR : rR cn v y z) (hP : va_P G vwCl (fl (LW cI cQ eo n b t hq aH a g q cn cb ct v x y z)) H) (hD : va_D (lwA s) (fl (LW cI cQ eo n b t hq aH a g q cn cb ct v x y z))) (hS : va_S (lwA s) s.heap H locs) : W p l e room_1 s m #[Value.ref bA] below meth c H locs 70 1936 Q (F0 m 528 ls []) := by
  obtain ⟨hx, hb, hr, hml, hown, hts, hX, hbl, hlocks, hgv⟩ := C0
  have hA : ∀ k : Nat, s.heap.size ≤ k → lwA s k := fun _ h => h
  have hbA : ¬ lwA s bA := Nat.not_le.mpr hbl
  obtain ⟨hvn, hjn, hde, hfr, hy, hV, hk, ht⟩ := k_pre hR
  have hm := hV.1
  have h1 : vp_in (nI i + 1) L := by rw [show (1 : Int32) = nI 1 from rfl, nI_add]; exact vp_in_nI (by omega) (by omega)
  have h2 : vp_in (nI i + 2) L := by rw [show (2 : Int32) = nI 2 from rfl, nI_add]; exact vp_in_nI (by omega) (by omega)
  obtain ⟨a1, ea1⟩ : ∃ w, w = xs (nI i + 1).toNatClampNeg := ⟨_, rfl⟩
  obtain ⟨a2, ea2⟩ : ∃ w, w = xs (nI i + 2).toNatClampNeg := ⟨_, rfl⟩
  refine lv_aload_n hx hb dL_law_528 rfl (lv_at hl 2 rfl) ?_
  refine lv_aload_n hx hb dL_law_529 rfl (lv_at hl 3 rfl) ?_
  refine lv_iload_n hx hb dL_law_530 rfl (lv_at hl 0 rfl) ?_
  refine lv_iconst (v := 1) hx hb dL_law_531 (by decide) ?_
  refine lv_iadd hx hb dL_law_532 ?_
  refine va_sld hx hb hX hbl hbA hS h1 dL_law_533 ?_
  rw [← ea1]
  refine lv_aload_n hx hb dL_law_534 rfl (lv_at hl 3 rfl) ?_
  refine lv_iload_n hx hb dL_law_535 rfl (lv_at hl 0 rfl) ?_
  refine lv_iconst (v := 2) hx hb dL_law_536 (by decide) ?_
  refine lv_iadd hx hb dL_law_537 ?_
  refine va_sld hx hb hX hbl hbA hS h2 dL_law_538 ?_
  rw [← ea2]
  refine fpV (rest := []) ⟨hx, hb, hml, hown, hts⟩ (c_X4_server l G cI cQ eo n b t hq aH a g cn cb ct v x y hvn hjn hde hfr hy a1 a2) (cwV 2 hts (goodUp gL_law_X4_server) rfl rfl rfl cd_X4_server ⟨Nat.le_of_ble_eq_true rfl, Nat.le_of_ble_eq_true rfl⟩) hK hP [true, true, true, true, true, true, true, false] rfl 1 0 rfl rfl rfl rfl rfl hl.1 rfl (Nat.le_of_ble_eq_true rfl) dL_law_539 ⟨Nat.le_of_ble_eq_true rfl, Nat.le_of_ble_eq_true rfl⟩ ?_
  refine lv_aload_n hx hb dL_law_542 rfl (lv_at hl 1 rfl) ?_
  refine lv_aload_n hx hb dL_law_543 rfl (lv_at hl 3 rfl) ?_
  refine lv_iload_n hx hb dL_law_544 rfl (lv_at hl 0 rfl) ?_
  refine lv_iconst (v := 1) hx hb dL_law_545 (by decide) ?_
  refine lv_iadd hx hb dL_law_546 ?_
  refine va_sld hx hb hX hbl hbA hS h1 dL_law_547 ?_
  rw [← ea1]
  refine lv_aload_n hx hb dL_law_548 rfl (lv_at hl 3 rfl) ?_
  refine lv_iload_n hx hb dL_law_549 rfl (lv_at hl 0 rfl) ?_
  refine lv_iconst (v := 2) hx hb dL_law_550 (by decide) ?_
  refine lv_iadd hx hb dL_law_551 ?_
  refine va_sld hx hb hX hbl hbA hS h2 dL_law_552 ?_
  rw [← ea2]
  refine fpV (rest := [.int _]) ⟨hx, hb, hml, hown, hts⟩ (c_X5_server l G cI cQ q z (knv cn) (knj cn) hm a1 a2) (cwV 2 hts (goodUp gL_law_X5_server) rfl rfl rfl cd_X5_server ⟨Nat.le_of_ble_eq_true rfl, Nat.le_of_ble_eq_true rfl⟩) hK hP [false, false, false, false, false, false, false, true] rfl 7 0 rfl rfl rfl rfl rfl hl.1 rfl (Nat.le_of_ble_eq_true rfl) dL_law_553 ⟨Nat.le_of_ble_eq_true rfl, Nat.le_of_ble_eq_true rfl⟩ ?_
  refine lv_icmp_eq (tgt := 719) hx hb dL_law_556 (by decide) (fun _ => ?_) (fun c9 => absurd (server_eq hR.1 a1 a2) c9)
  exact KK cn cb ct v x y z _ _ hR hP hD hS
set_option maxHeartbeats 4000000 in
set_option maxRecDepth 100000 in
theorem law_job {l : Launch} {p : Program} {e : Env} {s : State} {m : MethodId} {below : List Frame} {meth : Method} {c : Code} {Q : State → Prop} {bA L : Nat} {xs : Nat → Int32} {G : va_G} {cI cQ : ClassId} {eo : Nat} {n b t hq : Nat → Nat} {aH : Nat → Nat → Nat} {a : Nat} {g q : Nat → Nat} (hL : L ≤ 2048) (C0 : lw_At p s m meth c bA L xs) (hK : SF G cI cQ s) {i : Nat} (hi : i + 4 ≤ L) {ls : Array Slot} (hl : lv_has ls 4 [(3, .int (nI i)), (2, .ref (q 0)), (1, .ref eo), (0, .ref bA)])
    (KK : ∀ (cn cb ct : CS) (v : HW) (x : SS) (y : PS) (z : MS) (H : Heap) (locs : List Loc), rR cn v y z → va_P G vwCl (fl (LW cI cQ eo n b t hq aH a g q cn cb ct v x y z)) H → va_D (lwA s) (fl (LW cI cQ eo n b t hq aH a g q cn cb ct v x y z)) → va_S (lwA s) s.heap H locs → W p l e room_1 s m #[Value.ref bA] below meth c H locs 70 1936 Q (F0 m 719 ls []))
    {cn cb ct : CS} {v : HW} {x : SS} {y : PS} {z : MS} {H : Heap} {locs : List Loc} (hR : rR cn v y z) (hP : va_P G vwCl (fl (LW cI cQ eo n b t hq aH a g q cn cb ct v x y z)) H) (hD : va_D (lwA s) (fl (LW cI cQ eo n b t hq aH a g q cn cb ct v x y z))) (hS : va_S (lwA s) s.heap H locs) : W p l e room_1 s m #[Value.ref bA] below meth c H locs 70 1936 Q (F0 m 561 ls []) := by
  obtain ⟨hx, hb, hr, hml, hown, hts, hX, hbl, hlocks, hgv⟩ := C0
  have hA : ∀ k : Nat, s.heap.size ≤ k → lwA s k := fun _ h => h
  have hbA : ¬ lwA s bA := Nat.not_le.mpr hbl
  obtain ⟨hvn, hjn, hde, hfr, hy, hV, hk, ht⟩ := k_pre hR
  have hm := hV.1
  have h1 : vp_in (nI i + 1) L := by rw [show (1 : Int32) = nI 1 from rfl, nI_add]; exact vp_in_nI (by omega) (by omega)
  have h2 : vp_in (nI i + 2) L := by rw [show (2 : Int32) = nI 2 from rfl, nI_add]; exact vp_in_nI (by omega) (by omega)
  obtain ⟨a1, ea1⟩ : ∃ w, w = xs (nI i + 1).toNatClampNeg := ⟨_, rfl⟩
  obtain ⟨a2, ea2⟩ : ∃ w, w = xs (nI i + 2).toNatClampNeg := ⟨_, rfl⟩
  refine lv_aload_n hx hb dL_law_561 rfl (lv_at hl 2 rfl) ?_
  refine lv_aload_n hx hb dL_law_562 rfl (lv_at hl 3 rfl) ?_
  refine lv_iload_n hx hb dL_law_563 rfl (lv_at hl 0 rfl) ?_
  refine lv_iconst (v := 1) hx hb dL_law_564 (by decide) ?_
  refine lv_iadd hx hb dL_law_565 ?_
  refine va_sld hx hb hX hbl hbA hS h1 dL_law_566 ?_
  rw [← ea1]
  refine lv_aload_n hx hb dL_law_567 rfl (lv_at hl 3 rfl) ?_
  refine lv_iload_n hx hb dL_law_568 rfl (lv_at hl 0 rfl) ?_
  refine lv_iconst (v := 2) hx hb dL_law_569 (by decide) ?_
  refine lv_iadd hx hb dL_law_570 ?_
  refine va_sld hx hb hX hbl hbA hS h2 dL_law_571 ?_
  rw [← ea2]
  refine fpV (rest := []) ⟨hx, hb, hml, hown, hts⟩ (c_X4_job l G cI cQ eo n b t hq aH a g cn cb ct v x y hvn hjn hde hfr hy a1 a2) (cwV 2 hts (goodUp gL_law_X4_job) rfl rfl rfl cd_X4_job ⟨Nat.le_of_ble_eq_true rfl, Nat.le_of_ble_eq_true rfl⟩) hK hP [true, true, true, true, true, true, true, false] rfl 1 0 rfl rfl rfl rfl rfl hl.1 rfl (Nat.le_of_ble_eq_true rfl) dL_law_572 ⟨Nat.le_of_ble_eq_true rfl, Nat.le_of_ble_eq_true rfl⟩ ?_
  refine lv_aload_n hx hb dL_law_575 rfl (lv_at hl 1 rfl) ?_
  refine lv_aload_n hx hb dL_law_576 rfl (lv_at hl 3 rfl) ?_
  refine lv_iload_n hx hb dL_law_577 rfl (lv_at hl 0 rfl) ?_
  refine lv_iconst (v := 1) hx hb dL_law_578 (by decide) ?_
  refine lv_iadd hx hb dL_law_579 ?_
  refine va_sld hx hb hX hbl hbA hS h1 dL_law_580 ?_
  rw [← ea1]
  refine lv_aload_n hx hb dL_law_581 rfl (lv_at hl 3 rfl) ?_
  refine lv_iload_n hx hb dL_law_582 rfl (lv_at hl 0 rfl) ?_
  refine lv_iconst (v := 2) hx hb dL_law_583 (by decide) ?_
  refine lv_iadd hx hb dL_law_584 ?_
  refine va_sld hx hb hX hbl hbA hS h2 dL_law_585 ?_
  rw [← ea2]
  refine fpV (rest := [.int _]) ⟨hx, hb, hml, hown, hts⟩ (c_X5_job l G cI cQ q z (knv cn) (knj cn) hm a1 a2) (cwV 2 hts (goodUp gL_law_X5_job) rfl rfl rfl cd_X5_job ⟨Nat.le_of_ble_eq_true rfl, Nat.le_of_ble_eq_true rfl⟩) hK hP [false, false, false, false, false, false, false, true] rfl 7 0 rfl rfl rfl rfl rfl hl.1 rfl (Nat.le_of_ble_eq_true rfl) dL_law_586 ⟨Nat.le_of_ble_eq_true rfl, Nat.le_of_ble_eq_true rfl⟩ ?_
  refine lv_icmp_eq (tgt := 719) hx hb dL_law_589 (by decide) (fun _ => ?_) (fun c9 => absurd (job_eq hR.1 a1 a2) c9)
  exact KK cn cb ct v x y z _ _ hR hP hD hS
set_option maxHeartbeats 4000000 in
set_option maxRecDepth 100000 in
theorem law_leaving {l : Launch} {p : Program} {e : Env} {s : State} {m : MethodId} {below : List Frame} {meth : Method} {c : Code} {Q : State → Prop} {bA L : Nat} {xs : Nat → Int32} {G : va_G} {cI cQ : ClassId} {eo : Nat} {n b t hq : Nat → Nat} {aH : Nat → Nat → Nat} {a : Nat} {g q : Nat → Nat} (hL : L ≤ 2048) (C0 : lw_At p s m meth c bA L xs) (hK : SF G cI cQ s) {i : Nat} (hi : i + 4 ≤ L) {ls : Array Slot} (hl : lv_has ls 4 [(3, .int (nI i)), (2, .ref (q 0)), (1, .ref eo), (0, .ref bA)])
    (KK : ∀ (cn cb ct : CS) (v : HW) (x : SS) (y : PS) (z : MS) (H : Heap) (locs : List Loc), rR cn v y z → va_P G vwCl (fl (LW cI cQ eo n b t hq aH a g q cn cb ct v x y z)) H → va_D (lwA s) (fl (LW cI cQ eo n b t hq aH a g q cn cb ct v x y z)) → va_S (lwA s) s.heap H locs → W p l e room_1 s m #[Value.ref bA] below meth c H locs 70 1936 Q (F0 m 719 ls []))
    {cn cb ct : CS} {v : HW} {x : SS} {y : PS} {z : MS} {H : Heap} {locs : List Loc} (hR : rR cn v y z) (hP : va_P G vwCl (fl (LW cI cQ eo n b t hq aH a g q cn cb ct v x y z)) H) (hD : va_D (lwA s) (fl (LW cI cQ eo n b t hq aH a g q cn cb ct v x y z))) (hS : va_S (lwA s) s.heap H locs) : W p l e room_1 s m #[Value.ref bA] below meth c H locs 70 1936 Q (F0 m 594 ls []) := by
  obtain ⟨hx, hb, hr, hml, hown, hts, hX, hbl, hlocks, hgv⟩ := C0
  have hA : ∀ k : Nat, s.heap.size ≤ k → lwA s k := fun _ h => h
  have hbA : ¬ lwA s bA := Nat.not_le.mpr hbl
  obtain ⟨hvn, hjn, hde, hfr, hy, hV, hk, ht⟩ := k_pre hR
  have hm := hV.1
  have h1 : vp_in (nI i + 1) L := by rw [show (1 : Int32) = nI 1 from rfl, nI_add]; exact vp_in_nI (by omega) (by omega)
  have h2 : vp_in (nI i + 2) L := by rw [show (2 : Int32) = nI 2 from rfl, nI_add]; exact vp_in_nI (by omega) (by omega)
  obtain ⟨a1, ea1⟩ : ∃ w, w = xs (nI i + 1).toNatClampNeg := ⟨_, rfl⟩
  obtain ⟨a2, ea2⟩ : ∃ w, w = xs (nI i + 2).toNatClampNeg := ⟨_, rfl⟩
  refine lv_aload_n hx hb dL_law_594 rfl (lv_at hl 2 rfl) ?_
  refine lv_aload_n hx hb dL_law_595 rfl (lv_at hl 3 rfl) ?_
  refine lv_iload_n hx hb dL_law_596 rfl (lv_at hl 0 rfl) ?_
  refine lv_iconst (v := 1) hx hb dL_law_597 (by decide) ?_
  refine lv_iadd hx hb dL_law_598 ?_
  refine va_sld hx hb hX hbl hbA hS h1 dL_law_599 ?_
  rw [← ea1]
  refine lv_aload_n hx hb dL_law_600 rfl (lv_at hl 3 rfl) ?_
  refine lv_iload_n hx hb dL_law_601 rfl (lv_at hl 0 rfl) ?_
  refine lv_iconst (v := 2) hx hb dL_law_602 (by decide) ?_
  refine lv_iadd hx hb dL_law_603 ?_
  refine va_sld hx hb hX hbl hbA hS h2 dL_law_604 ?_
  rw [← ea2]
  refine fpV (rest := []) ⟨hx, hb, hml, hown, hts⟩ (c_X4_leaving l G cI cQ eo n b t hq aH a g cn cb ct v x y hvn hjn hde hfr hy a1 a2) (cwV 2 hts (goodUp gL_law_X4_leaving) rfl rfl rfl cd_X4_leaving ⟨Nat.le_of_ble_eq_true rfl, Nat.le_of_ble_eq_true rfl⟩) hK hP [true, true, true, true, true, true, true, false] rfl 1 0 rfl rfl rfl rfl rfl hl.1 rfl (Nat.le_of_ble_eq_true rfl) dL_law_605 ⟨Nat.le_of_ble_eq_true rfl, Nat.le_of_ble_eq_true rfl⟩ ?_
  refine lv_aload_n hx hb dL_law_608 rfl (lv_at hl 1 rfl) ?_
  refine lv_aload_n hx hb dL_law_609 rfl (lv_at hl 3 rfl) ?_
  refine lv_iload_n hx hb dL_law_610 rfl (lv_at hl 0 rfl) ?_
  refine lv_iconst (v := 1) hx hb dL_law_611 (by decide) ?_
  refine lv_iadd hx hb dL_law_612 ?_
  refine va_sld hx hb hX hbl hbA hS h1 dL_law_613 ?_
  rw [← ea1]
  refine lv_aload_n hx hb dL_law_614 rfl (lv_at hl 3 rfl) ?_
  refine lv_iload_n hx hb dL_law_615 rfl (lv_at hl 0 rfl) ?_
  refine lv_iconst (v := 2) hx hb dL_law_616 (by decide) ?_
  refine lv_iadd hx hb dL_law_617 ?_
  refine va_sld hx hb hX hbl hbA hS h2 dL_law_618 ?_
  rw [← ea2]
  refine fpV (rest := [.int _]) ⟨hx, hb, hml, hown, hts⟩ (c_X5_leaving l G cI cQ q z (knv cn) (knj cn) hm a1 a2) (cwV 2 hts (goodUp gL_law_X5_leaving) rfl rfl rfl cd_X5_leaving ⟨Nat.le_of_ble_eq_true rfl, Nat.le_of_ble_eq_true rfl⟩) hK hP [false, false, false, false, false, false, false, true] rfl 7 0 rfl rfl rfl rfl rfl hl.1 rfl (Nat.le_of_ble_eq_true rfl) dL_law_619 ⟨Nat.le_of_ble_eq_true rfl, Nat.le_of_ble_eq_true rfl⟩ ?_
  refine lv_icmp_eq (tgt := 719) hx hb dL_law_622 (by decide) (fun _ => ?_) (fun c9 => absurd (leav_eq hR.1.1 a1 a2) c9)
  exact KK cn cb ct v x y z _ _ hR hP hD hS
set_option maxHeartbeats 4000000 in
set_option maxRecDepth 100000 in
theorem law_step {l : Launch} {p : Program} {e : Env} {s : State} {m : MethodId} {below : List Frame} {meth : Method} {c : Code} {Q : State → Prop} {bA L : Nat} {xs : Nat → Int32} {G : va_G} {cI cQ : ClassId} {eo : Nat} {n b t hq : Nat → Nat} {aH : Nat → Nat → Nat} {a : Nat} {g q : Nat → Nat} (hL : L ≤ 2048) (C0 : lw_At p s m meth c bA L xs) (hK : SF G cI cQ s) {i : Nat} (hi : i + 4 ≤ L) {ls : Array Slot} (hl : lv_has ls 4 [(3, .int (nI i)), (2, .ref (q 0)), (1, .ref eo), (0, .ref bA)])
    (KK : ∀ (cn cb ct : CS) (v : HW) (x : SS) (y : PS) (z : MS) (H : Heap) (locs : List Loc), rR cn v y z → va_P G vwCl (fl (LW cI cQ eo n b t hq aH a g q cn cb ct v x y z)) H → va_D (lwA s) (fl (LW cI cQ eo n b t hq aH a g q cn cb ct v x y z)) → va_S (lwA s) s.heap H locs → W p l e room_1 s m #[Value.ref bA] below meth c H locs 70 1936 Q (F0 m 719 ls []))
    {cn cb ct : CS} {v : HW} {x : SS} {y : PS} {z : MS} {H : Heap} {locs : List Loc} (hR : rR cn v y z) (hP : va_P G vwCl (fl (LW cI cQ eo n b t hq aH a g q cn cb ct v x y z)) H) (hD : va_D (lwA s) (fl (LW cI cQ eo n b t hq aH a g q cn cb ct v x y z))) (hS : va_S (lwA s) s.heap H locs) : W p l e room_1 s m #[Value.ref bA] below meth c H locs 70 1936 Q (F0 m 627 ls []) := by
  obtain ⟨hx, hb, hr, hml, hown, hts, hX, hbl, hlocks, hgv⟩ := C0
  have hA : ∀ k : Nat, s.heap.size ≤ k → lwA s k := fun _ h => h
  have hbA : ¬ lwA s bA := Nat.not_le.mpr hbl
  obtain ⟨hvn, hjn, hde, hfr, hy, hV, hk, ht⟩ := k_pre hR
  have hm := hV.1
  have h1 : vp_in (nI i + 1) L := by rw [show (1 : Int32) = nI 1 from rfl, nI_add]; exact vp_in_nI (by omega) (by omega)
  obtain ⟨a1, ea1⟩ : ∃ w, w = xs (nI i + 1).toNatClampNeg := ⟨_, rfl⟩
  refine lv_aload_n hx hb dL_law_627 rfl (lv_at hl 2 rfl) ?_
  refine lv_aload_n hx hb dL_law_628 rfl (lv_at hl 3 rfl) ?_
  refine lv_iload_n hx hb dL_law_629 rfl (lv_at hl 0 rfl) ?_
  refine lv_iconst (v := 1) hx hb dL_law_630 (by decide) ?_
  refine lv_iadd hx hb dL_law_631 ?_
  refine va_sld hx hb hX hbl hbA hS h1 dL_law_632 ?_
  rw [← ea1]
  refine fmV (rest := []) (bs1 := LW cI cQ eo n b t hq aH a g q cn cb ct v (if ¬ a1 < 0 ∧ a1 ≤ 3 then sChoose cn (sTarget cn) x else x) y z) ⟨hx, hb, hml, hown, hts⟩ (c_X4_step l G cI cQ eo n b t hq aH a g cn cb ct v x y hvn hjn hde hfr hy a1 _) (cwV 1 hts (goodUp gL_law_X4_step) rfl rfl rfl cd_X4_step ⟨Nat.le_of_ble_eq_true rfl, Nat.le_of_ble_eq_true rfl⟩) hK hP hD hS hA [true, true, true, true, true, true, true, false] rfl rfl rfl rfl rfl 1 0 rfl rfl rfl rfl rfl hl.1 rfl (Nat.le_of_ble_eq_true rfl) dL_law_633 ⟨Nat.le_of_ble_eq_true rfl, Nat.le_of_ble_eq_true rfl⟩ (fun r H locs hr9 hP hD hS => ?_)
  subst hr9
  refine lv_aload_n hx hb dL_law_636 rfl (lv_at hl 1 rfl) ?_
  refine lv_aload_n hx hb dL_law_637 rfl (lv_at hl 3 rfl) ?_
  refine lv_iload_n hx hb dL_law_638 rfl (lv_at hl 0 rfl) ?_
  refine lv_iconst (v := 1) hx hb dL_law_639 (by decide) ?_
  refine lv_iadd hx hb dL_law_640 ?_
  refine va_sld hx hb hX hbl hbA hS h1 dL_law_641 ?_
  rw [← ea1]
  refine fmV (rest := [.int _]) (bs1 := LW cI cQ eo n b t hq aH a g q cn cb ct v (if ¬ a1 < 0 ∧ a1 ≤ 3 then sChoose cn (sTarget cn) x else x) y (if pIn a1 0 3 then gFind z (knv cn) (knj cn) else z)) ⟨hx, hb, hml, hown, hts⟩ (c_X5_step l G cI cQ q z (knv cn) (knj cn) hm a1 _) (cwV 1 hts (goodUp gL_law_X5_step) rfl rfl rfl cd_X5_step ⟨Nat.le_of_ble_eq_true rfl, Nat.le_of_ble_eq_true rfl⟩) hK hP hD hS hA [false, false, false, false, false, false, false, true] rfl rfl rfl rfl rfl 7 0 rfl rfl rfl rfl rfl hl.1 rfl (Nat.le_of_ble_eq_true rfl) dL_law_642 ⟨Nat.le_of_ble_eq_true rfl, Nat.le_of_ble_eq_true rfl⟩ (fun r H locs hr9 hP hD hS => ?_)
  subst hr9
  refine lv_icmp_eq (tgt := 719) hx hb dL_law_645 (by decide) (fun _ => ?_) (fun c9 => absurd (k_step hR x a1).1 c9)
  exact KK cn cb ct v (if ¬ a1 < 0 ∧ a1 ≤ 3 then sChoose cn (sTarget cn) x else x) y (if pIn a1 0 3 then gFind z (knv cn) (knj cn) else z) _ _ (k_step hR x a1).2 hP hD hS
set_option maxHeartbeats 4000000 in
set_option maxRecDepth 100000 in
theorem law_plan {l : Launch} {p : Program} {e : Env} {s : State} {m : MethodId} {below : List Frame} {meth : Method} {c : Code} {Q : State → Prop} {bA L : Nat} {xs : Nat → Int32} {G : va_G} {cI cQ : ClassId} {eo : Nat} {n b t hq : Nat → Nat} {aH : Nat → Nat → Nat} {a : Nat} {g q : Nat → Nat} (hL : L ≤ 2048) (C0 : lw_At p s m meth c bA L xs) (hK : SF G cI cQ s) {i : Nat} (hi : i + 4 ≤ L) {ls : Array Slot} (hl : lv_has ls 4 [(3, .int (nI i)), (2, .ref (q 0)), (1, .ref eo), (0, .ref bA)])
    (KK : ∀ (cn cb ct : CS) (v : HW) (x : SS) (y : PS) (z : MS) (H : Heap) (locs : List Loc), rR cn v y z → va_P G vwCl (fl (LW cI cQ eo n b t hq aH a g q cn cb ct v x y z)) H → va_D (lwA s) (fl (LW cI cQ eo n b t hq aH a g q cn cb ct v x y z)) → va_S (lwA s) s.heap H locs → W p l e room_1 s m #[Value.ref bA] below meth c H locs 70 1936 Q (F0 m 719 ls []))
    {cn cb ct : CS} {v : HW} {x : SS} {y : PS} {z : MS} {H : Heap} {locs : List Loc} (hR : rR cn v y z) (hP : va_P G vwCl (fl (LW cI cQ eo n b t hq aH a g q cn cb ct v x y z)) H) (hD : va_D (lwA s) (fl (LW cI cQ eo n b t hq aH a g q cn cb ct v x y z))) (hS : va_S (lwA s) s.heap H locs) : W p l e room_1 s m #[Value.ref bA] below meth c H locs 70 1936 Q (F0 m 650 ls []) := by
  obtain ⟨hx, hb, hr, hml, hown, hts, hX, hbl, hlocks, hgv⟩ := C0
  have hA : ∀ k : Nat, s.heap.size ≤ k → lwA s k := fun _ h => h
  have hbA : ¬ lwA s bA := Nat.not_le.mpr hbl
  obtain ⟨hvn, hjn, hde, hfr, hy, hV, hk, ht⟩ := k_pre hR
  have hm := hV.1
  have h1 : vp_in (nI i + 1) L := by rw [show (1 : Int32) = nI 1 from rfl, nI_add]; exact vp_in_nI (by omega) (by omega)
  obtain ⟨a1, ea1⟩ : ∃ w, w = xs (nI i + 1).toNatClampNeg := ⟨_, rfl⟩
  refine lv_aload_n hx hb dL_law_650 rfl (lv_at hl 2 rfl) ?_
  refine lv_aload_n hx hb dL_law_651 rfl (lv_at hl 3 rfl) ?_
  refine lv_iload_n hx hb dL_law_652 rfl (lv_at hl 0 rfl) ?_
  refine lv_iconst (v := 1) hx hb dL_law_653 (by decide) ?_
  refine lv_iadd hx hb dL_law_654 ?_
  refine va_sld hx hb hX hbl hbA hS h1 dL_law_655 ?_
  rw [← ea1]
  refine fmV (rest := []) (bs1 := LW cI cQ eo n b t hq aH a g q cn cb (if ¬ a1 < 0 ∧ a1 ≤ 4 then (fWalk cn x 30).2.1 else ct) v (if ¬ a1 < 0 ∧ a1 ≤ 4 then (fWalk cn x 30).2.2 else x) y z) ⟨hx, hb, hml, hown, hts⟩ (c_X4_plan l G cI cQ eo n b t hq aH a g cn cb ct v x y hvn hjn hde hfr hy a1 _) (cwV 1 hts (goodUp gL_law_X4_plan) rfl rfl rfl cd_X4_plan ⟨Nat.le_of_ble_eq_true rfl, Nat.le_of_ble_eq_true rfl⟩) hK hP hD hS hA [true, true, true, true, true, true, true, false] rfl rfl rfl rfl rfl 1 0 rfl rfl rfl rfl rfl hl.1 rfl (Nat.le_of_ble_eq_true rfl) dL_law_656 ⟨Nat.le_of_ble_eq_true rfl, Nat.le_of_ble_eq_true rfl⟩ (fun r H locs hr9 hP hD hS => ?_)
  subst hr9
  refine lv_aload_n hx hb dL_law_659 rfl (lv_at hl 1 rfl) ?_
  refine lv_aload_n hx hb dL_law_660 rfl (lv_at hl 3 rfl) ?_
  refine lv_iload_n hx hb dL_law_661 rfl (lv_at hl 0 rfl) ?_
  refine lv_iconst (v := 1) hx hb dL_law_662 (by decide) ?_
  refine lv_iadd hx hb dL_law_663 ?_
  refine va_sld hx hb hX hbl hbA hS h1 dL_law_664 ?_
  rw [← ea1]
  refine fmV (rest := [.int _]) (bs1 := LW cI cQ eo n b t hq aH a g q cn cb (if ¬ a1 < 0 ∧ a1 ≤ 4 then (fWalk cn x 30).2.1 else ct) v (if ¬ a1 < 0 ∧ a1 ≤ 4 then (fWalk cn x 30).2.2 else x) y (gMPlan z (knv cn) (knj cn) a1)) ⟨hx, hb, hml, hown, hts⟩ (c_X5_plan l G cI cQ q z (knv cn) (knj cn)  a1 hV _) (cwV 1 hts (goodUp gL_law_X5_plan) rfl rfl rfl cd_X5_plan ⟨Nat.le_of_ble_eq_true rfl, Nat.le_of_ble_eq_true rfl⟩) hK hP hD hS hA [false, false, false, false, false, false, false, true] rfl rfl rfl rfl rfl 7 0 rfl rfl rfl rfl rfl hl.1 rfl (Nat.le_of_ble_eq_true rfl) dL_law_665 ⟨Nat.le_of_ble_eq_true rfl, Nat.le_of_ble_eq_true rfl⟩ (fun r H locs hr9 hP hD hS => ?_)
  subst hr9
  refine lv_icmp_eq (tgt := 719) hx hb dL_law_668 (by decide) (fun _ => ?_) (fun c9 => absurd (k_plan hR x a1).1 c9)
  exact KK cn cb (if ¬ a1 < 0 ∧ a1 ≤ 4 then (fWalk cn x 30).2.1 else ct) v (if ¬ a1 < 0 ∧ a1 ≤ 4 then (fWalk cn x 30).2.2 else x) y (gMPlan z (knv cn) (knj cn) a1) _ _ (k_plan hR x a1).2 hP hD hS
set_option maxHeartbeats 4000000 in
set_option maxRecDepth 100000 in
theorem law_fewest {l : Launch} {p : Program} {e : Env} {s : State} {m : MethodId} {below : List Frame} {meth : Method} {c : Code} {Q : State → Prop} {bA L : Nat} {xs : Nat → Int32} {G : va_G} {cI cQ : ClassId} {eo : Nat} {n b t hq : Nat → Nat} {aH : Nat → Nat → Nat} {a : Nat} {g q : Nat → Nat} (hL : L ≤ 2048) (C0 : lw_At p s m meth c bA L xs) (hK : SF G cI cQ s) {i : Nat} (hi : i + 4 ≤ L) {ls : Array Slot} (hl : lv_has ls 4 [(3, .int (nI i)), (2, .ref (q 0)), (1, .ref eo), (0, .ref bA)])
    (KK : ∀ (cn cb ct : CS) (v : HW) (x : SS) (y : PS) (z : MS) (H : Heap) (locs : List Loc), rR cn v y z → va_P G vwCl (fl (LW cI cQ eo n b t hq aH a g q cn cb ct v x y z)) H → va_D (lwA s) (fl (LW cI cQ eo n b t hq aH a g q cn cb ct v x y z)) → va_S (lwA s) s.heap H locs → W p l e room_1 s m #[Value.ref bA] below meth c H locs 70 1936 Q (F0 m 719 ls []))
    {cn cb ct : CS} {v : HW} {x : SS} {y : PS} {z : MS} {H : Heap} {locs : List Loc} (hR : rR cn v y z) (hP : va_P G vwCl (fl (LW cI cQ eo n b t hq aH a g q cn cb ct v x y z)) H) (hD : va_D (lwA s) (fl (LW cI cQ eo n b t hq aH a g q cn cb ct v x y z))) (hS : va_S (lwA s) s.heap H locs) : W p l e room_1 s m #[Value.ref bA] below meth c H locs 70 1936 Q (F0 m 673 ls []) := by
  obtain ⟨hx, hb, hr, hml, hown, hts, hX, hbl, hlocks, hgv⟩ := C0
  have hA : ∀ k : Nat, s.heap.size ≤ k → lwA s k := fun _ h => h
  have hbA : ¬ lwA s bA := Nat.not_le.mpr hbl
  obtain ⟨hvn, hjn, hde, hfr, hy, hV, hk, ht⟩ := k_pre hR
  have hm := hV.1
  have h1 : vp_in (nI i + 1) L := by rw [show (1 : Int32) = nI 1 from rfl, nI_add]; exact vp_in_nI (by omega) (by omega)
  obtain ⟨a1, ea1⟩ : ∃ w, w = xs (nI i + 1).toNatClampNeg := ⟨_, rfl⟩
  refine lv_aload_n hx hb dL_law_673 rfl (lv_at hl 2 rfl) ?_
  refine lv_aload_n hx hb dL_law_674 rfl (lv_at hl 3 rfl) ?_
  refine lv_iload_n hx hb dL_law_675 rfl (lv_at hl 0 rfl) ?_
  refine lv_iconst (v := 1) hx hb dL_law_676 (by decide) ?_
  refine lv_iadd hx hb dL_law_677 ?_
  refine va_sld hx hb hX hbl hbA hS h1 dL_law_678 ?_
  rw [← ea1]
  refine fmV (rest := []) (bs1 := LW cI cQ eo n b t hq aH a g q cn cb (if ¬ a1 < 0 ∧ a1 ≤ 1 then cn else ct) v x y z) ⟨hx, hb, hml, hown, hts⟩ (c_X4_fewest l G cI cQ eo n b t hq aH a g cn cb ct v x y hvn hjn hde hfr hy a1 _) (cwV 1 hts (goodUp gL_law_X4_fewest) rfl rfl rfl cd_X4_fewest ⟨Nat.le_of_ble_eq_true rfl, Nat.le_of_ble_eq_true rfl⟩) hK hP hD hS hA [true, true, true, true, true, true, true, false] rfl rfl rfl rfl rfl 1 0 rfl rfl rfl rfl rfl hl.1 rfl (Nat.le_of_ble_eq_true rfl) dL_law_679 ⟨Nat.le_of_ble_eq_true rfl, Nat.le_of_ble_eq_true rfl⟩ (fun r H locs hr9 hP hD hS => ?_)
  subst hr9
  refine lv_aload_n hx hb dL_law_682 rfl (lv_at hl 1 rfl) ?_
  refine lv_aload_n hx hb dL_law_683 rfl (lv_at hl 3 rfl) ?_
  refine lv_iload_n hx hb dL_law_684 rfl (lv_at hl 0 rfl) ?_
  refine lv_iconst (v := 1) hx hb dL_law_685 (by decide) ?_
  refine lv_iadd hx hb dL_law_686 ?_
  refine va_sld hx hb hX hbl hbA hS h1 dL_law_687 ?_
  rw [← ea1]
  refine fmV (rest := [.int _]) (bs1 := LW cI cQ eo n b t hq aH a g q cn cb (if ¬ a1 < 0 ∧ a1 ≤ 1 then cn else ct) v x y (gMFew z (knv cn) (knj cn) a1)) ⟨hx, hb, hml, hown, hts⟩ (c_X5_fewest l G cI cQ q z (knv cn) (knj cn)  hV a1 _) (cwV 1 hts (goodUp gL_law_X5_fewest) rfl rfl rfl cd_X5_fewest ⟨Nat.le_of_ble_eq_true rfl, Nat.le_of_ble_eq_true rfl⟩) hK hP hD hS hA [false, false, false, false, false, false, false, true] rfl rfl rfl rfl rfl 7 0 rfl rfl rfl rfl rfl hl.1 rfl (Nat.le_of_ble_eq_true rfl) dL_law_688 ⟨Nat.le_of_ble_eq_true rfl, Nat.le_of_ble_eq_true rfl⟩ (fun r H locs hr9 hP hD hS => ?_)
  subst hr9
  refine lv_icmp_eq (tgt := 719) hx hb dL_law_691 (by decide) (fun _ => ?_) (fun c9 => absurd (k_fewest hR a1).1 c9)
  exact KK cn cb (if ¬ a1 < 0 ∧ a1 ≤ 1 then cn else ct) v x y (gMFew z (knv cn) (knj cn) a1) _ _ (k_fewest hR a1).2 hP hD hS
set_option maxHeartbeats 4000000 in
set_option maxRecDepth 100000 in
theorem law_without {l : Launch} {p : Program} {e : Env} {s : State} {m : MethodId} {below : List Frame} {meth : Method} {c : Code} {Q : State → Prop} {bA L : Nat} {xs : Nat → Int32} {G : va_G} {cI cQ : ClassId} {eo : Nat} {n b t hq : Nat → Nat} {aH : Nat → Nat → Nat} {a : Nat} {g q : Nat → Nat} (hL : L ≤ 2048) (C0 : lw_At p s m meth c bA L xs) (hK : SF G cI cQ s) {i : Nat} (hi : i + 4 ≤ L) {ls : Array Slot} (hl : lv_has ls 4 [(3, .int (nI i)), (2, .ref (q 0)), (1, .ref eo), (0, .ref bA)])
    (KK : ∀ (cn cb ct : CS) (v : HW) (x : SS) (y : PS) (z : MS) (H : Heap) (locs : List Loc), rR cn v y z → va_P G vwCl (fl (LW cI cQ eo n b t hq aH a g q cn cb ct v x y z)) H → va_D (lwA s) (fl (LW cI cQ eo n b t hq aH a g q cn cb ct v x y z)) → va_S (lwA s) s.heap H locs → W p l e room_1 s m #[Value.ref bA] below meth c H locs 70 1936 Q (F0 m 719 ls []))
    {cn cb ct : CS} {v : HW} {x : SS} {y : PS} {z : MS} {H : Heap} {locs : List Loc} (hR : rR cn v y z) (hP : va_P G vwCl (fl (LW cI cQ eo n b t hq aH a g q cn cb ct v x y z)) H) (hD : va_D (lwA s) (fl (LW cI cQ eo n b t hq aH a g q cn cb ct v x y z))) (hS : va_S (lwA s) s.heap H locs) : W p l e room_1 s m #[Value.ref bA] below meth c H locs 70 1936 Q (F0 m 696 ls []) := by
  obtain ⟨hx, hb, hr, hml, hown, hts, hX, hbl, hlocks, hgv⟩ := C0
  have hA : ∀ k : Nat, s.heap.size ≤ k → lwA s k := fun _ h => h
  have hbA : ¬ lwA s bA := Nat.not_le.mpr hbl
  obtain ⟨hvn, hjn, hde, hfr, hy, hV, hk, ht⟩ := k_pre hR
  have hm := hV.1
  have h1 : vp_in (nI i + 1) L := by rw [show (1 : Int32) = nI 1 from rfl, nI_add]; exact vp_in_nI (by omega) (by omega)
  obtain ⟨a1, ea1⟩ : ∃ w, w = xs (nI i + 1).toNatClampNeg := ⟨_, rfl⟩
  refine lv_aload_n hx hb dL_law_696 rfl (lv_at hl 2 rfl) ?_
  refine lv_aload_n hx hb dL_law_697 rfl (lv_at hl 3 rfl) ?_
  refine lv_iload_n hx hb dL_law_698 rfl (lv_at hl 0 rfl) ?_
  refine lv_iconst (v := 1) hx hb dL_law_699 (by decide) ?_
  refine lv_iadd hx hb dL_law_700 ?_
  refine va_sld hx hb hX hbl hbA hS h1 dL_law_701 ?_
  rw [← ea1]
  refine fmV (rest := []) (bs1 := LW cI cQ eo n b t hq aH a g q cn cb (if pHasS cn a1 ∧ pOpen cn a1 ∧ ¬ knO cn ≤ 1 then sClose cn a1 else ct) v x y z) ⟨hx, hb, hml, hown, hts⟩ (c_X4_without l G cI cQ eo n b t hq aH a g cn cb ct v x y hvn hjn hde hfr hy a1 _) (cwV 1 hts (goodUp gL_law_X4_without) rfl rfl rfl cd_X4_without ⟨Nat.le_of_ble_eq_true rfl, Nat.le_of_ble_eq_true rfl⟩) hK hP hD hS hA [true, true, true, true, true, true, true, false] rfl rfl rfl rfl rfl 1 0 rfl rfl rfl rfl rfl hl.1 rfl (Nat.le_of_ble_eq_true rfl) dL_law_702 ⟨Nat.le_of_ble_eq_true rfl, Nat.le_of_ble_eq_true rfl⟩ (fun r H locs hr9 hP hD hS => ?_)
  subst hr9
  refine lv_aload_n hx hb dL_law_705 rfl (lv_at hl 1 rfl) ?_
  refine lv_aload_n hx hb dL_law_706 rfl (lv_at hl 3 rfl) ?_
  refine lv_iload_n hx hb dL_law_707 rfl (lv_at hl 0 rfl) ?_
  refine lv_iconst (v := 1) hx hb dL_law_708 (by decide) ?_
  refine lv_iadd hx hb dL_law_709 ?_
  refine va_sld hx hb hX hbl hbA hS h1 dL_law_710 ?_
  rw [← ea1]
  refine fmV (rest := [.int _]) (bs1 := LW cI cQ eo n b t hq aH a g q cn cb (if pHasS cn a1 ∧ pOpen cn a1 ∧ ¬ knO cn ≤ 1 then sClose cn a1 else ct) v x y (if pHas (knv cn) a1 ∧ pMOpen (kMs z) (knv cn) a1 ∧ ¬ mOpens (kMs z) = 1 then uMbef z (kMs z) else z)) ⟨hx, hb, hml, hown, hts⟩ (c_X5_without l G cI cQ q z (knv cn) (knj cn) hm a1 _) (cwV 1 hts (goodUp gL_law_X5_without) rfl rfl rfl cd_X5_without ⟨Nat.le_of_ble_eq_true rfl, Nat.le_of_ble_eq_true rfl⟩) hK hP hD hS hA [false, false, false, false, false, false, false, true] rfl rfl rfl rfl rfl 7 0 rfl rfl rfl rfl rfl hl.1 rfl (Nat.le_of_ble_eq_true rfl) dL_law_711 ⟨Nat.le_of_ble_eq_true rfl, Nat.le_of_ble_eq_true rfl⟩ (fun r H locs hr9 hP hD hS => ?_)
  subst hr9
  refine lv_icmp_eq (tgt := 719) hx hb dL_law_714 (by decide) (fun _ => ?_) (fun c9 => absurd (k_without hR a1).1 c9)
  exact KK cn cb (if pHasS cn a1 ∧ pOpen cn a1 ∧ ¬ knO cn ≤ 1 then sClose cn a1 else ct) v x y (if pHas (knv cn) a1 ∧ pMOpen (kMs z) (knv cn) a1 ∧ ¬ mOpens (kMs z) = 1 then uMbef z (kMs z) else z) _ _ (k_without hR a1).2 hP hD hS
