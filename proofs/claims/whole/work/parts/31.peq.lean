/-! ===== the changes, side by side ===== -/
theorem sh_at (f : Nat → Int32) {a k : Nat} (ha : a < 6) (hk : k < 6) (hne : k ≠ a) (z : Int32) (i : Nat) : pT 6 (pT 6 f (nI a) (aT 6 f (nI a) - z)) (nI k) (aT 6 (pT 6 f (nI a) (aT 6 f (nI a) - z)) (nI k) + z) i = if i = k then f k + z else if i = a then f a - z else f i := by
  have h6 : 6 < 2 ^ 31 := by decide
  simp only [pT_nI hk h6, aT_nI hk h6, pT_nI ha h6, aT_nI ha h6, upd, if_neg hne]
theorem sz_goes (s : Nat → Int32) {j i : Nat} (hj : j < 24) (k : Int32) : szN (mGoes s (nI j) k) i = szN s i := by
  unfold szN
  rw [goes_at s hj, if_neg (by omega), if_neg (by omega), if_neg (by omega), if_neg (by omega)]
theorem loN_goes (s : Nat → Int32) {j a k : Nat} (hj : j < 24) (hp : mOf s (nI j) 2 = nI a) (hne : k ≠ a) (ha : a < 6) (hk : k < 6) {x : Nat} (hx : x < 6) : ∀ n, n ≤ 24 → loN (mGoes s (nI j) (nI k)) (nI x) n + (if j < n ∧ x = a then szN s j else 0) = loN s (nI x) n + (if j < n ∧ x = k then szN s j else 0)
  | 0, _ => by
    rw [if_neg (fun q => Nat.not_lt_zero j q.1), if_neg (fun q => Nat.not_lt_zero j q.1)]
    rfl
  | n + 1, hn => by
    have ih := loN_goes s hj hp hne ha hk hx n (by omega)
    have q1 : (nI k = nI x) ↔ k = x := nI_eq (by omega) (by omega)
    have q2 : (nI a = nI x) ↔ a = x := nI_eq (by omega) (by omega)
    unfold loN
    rw [goes_2 s hj (by omega), sz_goes s hj]
    by_cases e : n = j
    · subst e
      rw [if_pos rfl, hp]
      simp only [q1, q2, Nat.lt_irrefl, false_and, if_false, Nat.lt_succ_self, true_and, Nat.add_zero] at ih ⊢
      by_cases c1 : x = a
      · subst c1
        simp only [if_true, if_neg hne, if_neg (Ne.symm hne)]
        omega
      · by_cases c2 : x = k
        · subst c2
          simp only [if_true, if_neg (Ne.symm c1), if_neg c1]
          omega
        · simp only [if_neg c1, if_neg c2, if_neg (Ne.symm c1), if_neg (Ne.symm c2)]
          omega
    · rw [if_neg e]
      have e1 : (j < n + 1) ↔ j < n := by omega
      simp only [e1]
      by_cases g : mOf s (nI n) 2 = nI x
      · rw [if_pos g, if_pos g]
        omega
      · rw [if_neg g, if_neg g]
        exact ih
theorem al_goes (s : Nat → Int32) {j a k : Nat} (hj : j < 24) (hp : mOf s (nI j) 2 = nI a) (ha : a < 6) (hk : k < 6) : ∀ n, n ≤ 24 → alF (mGoes s (nI j) (nI k)) n = alF s n
  | 0, _ => rfl
  | n + 1, hn => by
    unfold alF
    rw [al_goes s hj hp ha hk n (by omega), goes_0 s hj (by omega)]
    refine ite_iff ?_ _ _
    show mOf (mGoes s (nI j) (nI k)) (nI n) 2 = -9 ↔ mOf s (nI n) 2 = -9
    rw [goes_2 s hj (by omega)]
    by_cases e : n = j
    · subst e
      rw [if_pos rfl, hp]
      exact ⟨fun q => absurd q (st_ne9 (by omega)), fun q => absurd q (st_ne9 (by omega))⟩
    · rw [if_neg e]
theorem op_s1 {s t : Nat → Int32} (e : t 1 = s 1) : ∀ k, opF t k = opF s k
  | 0 => rfl
  | k + 1 => by
    unfold opF
    rw [op_s1 e k, e]
theorem rc_take {c : CS} {s : Nat → Int32} (h : rC c s) (hS : rS s (knv c) (knj c)) {j a k : Nat} (hj : j < knj c) (hp : mOf s (nI j) 2 = nI a) (ha : a < knv c) (hk : k < knv c) (hne : k ≠ a) : rC (sTake c (nI j) (nI k)) (mGoes s (nI j) (nI k)) := by
  have hj24 := rc_j h hj
  have ha6 := rc_v h ha
  have hk6 := rc_v h hk
  have hn := h.1.2.2.2
  refine ⟨MI_goes _ _ h.1, fun i hi => ?_, fun i hi => ?_, fun i hi => ?_, ?_, ?_, ?_, ?_, ?_⟩
  · have hi : i < knj c := hi
    have hi24 := rc_j h hi
    obtain ⟨g1, g2, g3, g4⟩ := h.2.1 i hi
    refine ⟨?_, ?_, ?_, ?_⟩
    · show ksz c i = _
      rw [goes_at s hj24, if_neg (by omega), if_neg (by omega), if_neg (by omega), if_neg (by omega)]
      exact g1
    · show kpr c i = _
      rw [goes_at s hj24, if_neg (by omega), if_neg (by omega), if_neg (by omega), if_neg (by omega)]
      exact g2
    · show pT 24 (kpl c) (nI j) (nI k) i = _
      rw [pT_nI hj24 (by decide), goes_at s hj24, if_neg (by omega), if_neg (by omega), if_neg (by omega)]
      unfold upd
      by_cases e : i = j
      · rw [if_pos e, if_pos (by omega)]
      · rw [if_neg e, if_neg (by omega)]
        exact g3
    · show pT 24 (kmv c) (nI j) (aT 24 (kmv c) (nI j) + 1) i = _
      rw [pT_nI hj24 (by decide), aT_nI hj24 (by decide), goes_at s hj24, if_neg (by omega), if_neg (by omega)]
      unfold upd
      by_cases e : i = j
      · rw [if_pos e, if_pos (by omega), (h.2.1 j hj).2.2.2]
      · rw [if_neg e, if_neg (by omega), if_neg (by omega)]
        exact g4
  · rw [goes_s1 s hj24]
    exact h.2.2.1 i hi
  · show kld (sShift c (aT 24 (ksz c) (nI j)) (aT 24 (kpl c) (nI j)) (nI k)) i = mLoad (mGoes s (nI j) (nI k)) (knj c) (nI i)
    rw [rc_sz h hj, rc_pl h hj, hp]
    have hS2 : rS (mGoes s (nI j) (nI k)) (knv c) (knj c) := by
      refine ⟨fun i hi => ?_, fun i hi => ?_, ?_⟩
      · have hi24 := rc_j h hi
        rw [goes_at s hj24, goes_at s hj24, if_neg (by omega), if_neg (by omega), if_neg (by omega), if_neg (by omega), if_neg (by omega), if_neg (by omega), if_neg (by omega), if_neg (by omega)]
        exact hS.1 i hi
      · have hi24 := rc_j h hi
        rw [goes_at s hj24, if_neg (by omega), if_neg (by omega), if_neg (by omega)]
        by_cases e : i = j
        · rw [if_pos (by omega)]
          exact Or.inr ⟨k, hk, rfl⟩
        · rw [if_neg (by omega)]
          exact hS.2.1 i hi
      · rw [goes_at s hj24, if_neg (by omega), if_neg (by omega), if_neg (by omega), if_neg (by omega)]
        exact hS.2.2
    have gz := sz_nI hS hj
    have ez : mOf s (nI j) 0 = nI (szN s j) := by rw [mOf_0 s hj24]; exact gz.1
    have hl := loN_goes s hj24 hp hne ha6 hk6 hi (knj c) hn
    rw [(ld_nI hS2 hn (nI i)).1, ez]
    refine (sh_at (kld c) ha6 hk6 hne _ i).trans ?_
    rw [h.2.2.2.1 k hk6, h.2.2.2.1 a ha6, h.2.2.2.1 i hi, (ld_nI hS hn (nI k)).1, (ld_nI hS hn (nI a)).1, (ld_nI hS hn (nI i)).1]
    by_cases c1 : i = k
    · subst c1
      rw [if_pos rfl, nI_add]
      rw [if_neg (fun q => hne q.2), if_pos ⟨hj, rfl⟩] at hl
      rw [show loN s (nI i) (knj c) + szN s j = loN (mGoes s (nI j) (nI i)) (nI i) (knj c) from by omega]
    · rw [if_neg c1]
      by_cases c2 : i = a
      · subst c2
        rw [if_pos rfl]
        rw [if_pos ⟨hj, rfl⟩, if_neg (fun q => c1 q.2)] at hl
        rw [pk_sub (by omega)]
        rw [show loN s (nI i) (knj c) - szN s j = loN (mGoes s (nI j) (nI k)) (nI i) (knj c) from by omega]
      · rw [if_neg c2]
        rw [if_neg (fun q => c2 q.2), if_neg (fun q => c1 q.2)] at hl
        rw [show loN s (nI i) (knj c) = loN (mGoes s (nI j) (nI k)) (nI i) (knj c) from by omega]
  · show knO c = opF (mGoes s (nI j) (nI k)) 6
    rw [op_s1 (goes_s1 s hj24 (nI k)) 6]
    exact h.2.2.2.2.1
  · show ksm c = alF (mGoes s (nI j) (nI k)) (knj c)
    rw [al_goes s hj24 hp ha6 hk6 (knj c) hn]
    exact h.2.2.2.2.2.1
  · show kbu c - aT 24 (kpr c) (nI j) = _
    rw [goes_at s hj24, if_neg (by omega), if_pos rfl, rc_pr h hj, mOf_1 s hj24, h.2.2.2.2.2.2.1]
  · show kfa c = _
    rw [goes_at s hj24, if_neg (by omega), if_neg (by omega), if_neg (by omega), if_neg (by omega)]
    exact h.2.2.2.2.2.2.2.1
  · show kmo c + 1 = _
    rw [goes_at s hj24, if_pos rfl, h.2.2.2.2.2.2.2.2]
theorem rS_goes {s : Nat → Int32} {nv nj : Nat} (hn : nj ≤ 24) (hS : rS s nv nj) {j k : Nat} (hj : j < nj) (hk : k < nv) : rS (mGoes s (nI j) (nI k)) nv nj := by
  have hj24 : j < 24 := by omega
  refine ⟨fun i hi => ?_, fun i hi => ?_, ?_⟩
  · rw [goes_at s hj24, goes_at s hj24, if_neg (by omega), if_neg (by omega), if_neg (by omega), if_neg (by omega), if_neg (by omega), if_neg (by omega), if_neg (by omega), if_neg (by omega)]
    exact hS.1 i hi
  · rw [goes_at s hj24, if_neg (by omega), if_neg (by omega), if_neg (by omega)]
    by_cases e : i = j
    · rw [if_pos (by omega)]
      exact Or.inr ⟨k, hk, rfl⟩
    · rw [if_neg (by omega)]
      exact hS.2.1 i hi
  · rw [goes_at s hj24, if_neg (by omega), if_neg (by omega), if_neg (by omega), if_neg (by omega)]
    exact hS.2.2
/-- the whole relation of a cluster to rows -/
def R2 (c : CS) (s : Nat → Int32) : Prop := rC c s ∧ rS s (knv c) (knj c) ∧ mV s (knv c) (knj c) ∧ (knv c = 0 ∨ 0 < opC s)
theorem opC_s1 {s t : Nat → Int32} (e : t 1 = s 1) : opC t = opC s := by unfold opC; rw [e]
theorem R2_take {c : CS} {s : Nat → Int32} (h : R2 c s) {j a k : Nat} (hj : j < knj c) (hp : mOf s (nI j) 2 = nI a) (ha : a < knv c) (hk : pMOpen s (knv c) (nI k)) (hk6 : k < 6) (hne : k ≠ a) : R2 (sTake c (nI j) (nI k)) (mGoes s (nI j) (nI k)) := by
  have hk' : k < knv c := by
    rcases Nat.lt_or_ge k (knv c) with q | q
    · exact q
    · exact absurd (nI_le q (by omega)) hk.1.2
  have hn := h.1.1.2.2.2
  refine ⟨rc_take h.1 h.2.1 hj hp ha hk' hne, rS_goes hn h.2.1 hj hk', mV_goes (vp_in_nI (rc_j h.1 hj) (by decide)) hk h.2.2.1, ?_⟩
  rcases h.2.2.2 with q | q
  · exact Or.inl q
  · exact Or.inr (by rw [opC_s1 (goes_s1 s (rc_j h.1 hj) (nI k))]; exact q)
theorem place_nI {s : Nat → Int32} {nv nj : Nat} (hV : mV s nv nj) {j : Nat} (hj : j < nj) (hd : ¬ mOf s (nI j) 2 = -9) : ∃ a, a < nv ∧ a < 6 ∧ mOf s (nI j) 2 = nI a ∧ pMOpen s nv (nI a) := by
  have o := (hV.2 j hj).resolve_left hd
  obtain ⟨a, ha, e⟩ := has_ex o.1 (by have := hV.1.2.1; omega)
  rw [e] at o
  exact ⟨a, ha, by have := hV.1.2.1; omega, e, o⟩
theorem R2_great {c : CS} {s : Nat → Int32} (h : R2 c s) : sGreatest c = mGreat s (knv c) (knj c) := rc_great h.1 h.2.1 h.2.2.1
theorem move_eq {c : CS} {s : Nat → Int32} (h : R2 c s) (p q : Int32) : (fMove c p q).1 = (gMoves s (knv c) (knj c) p q).1 ∧ R2 (fMove c p q).2 (gMoves s (knv c) (knj c) p q).2 := by
  unfold fMove gMoves
  by_cases g : pHas (knj c) p ∧ pHas (knv c) q
  · rw [if_pos (show pHasJ c p ∧ pHasS c q from g), if_pos g]
    obtain ⟨j, hj, rfl⟩ := has_ex g.1 h.1.1.2.2.2
    obtain ⟨k, hk, rfl⟩ := has_ex g.2 (by have := h.1.1.2.1; omega)
    have hk6 := rc_v h.1 hk
    have e2 := rc_pl h.1 hj
    have e1 := rc_pr h.1 hj
    have eb := h.1.2.2.2.2.2.2.1
    have eo := rc_op h.1 hk6
    by_cases g1 : pMDone s (nI j) ∨ mOf s (nI j) 2 = nI k ∨ ¬ pMOpen s (knv c) (nI k)
    · rw [if_pos (show pFin c (nI j) ∨ aT 24 (kpl c) (nI j) = nI k ∨ ¬ pOpen c (nI k) from by rw [e2, show pFin c (nI j) ↔ pMDone s (nI j) from by show _ = _ ↔ _ = _; rw [e2]]; exact g1.imp id (fun r => r.imp id (fun r o => r (eo.mp o)))), if_pos (by rcases g1 with r | r | r; exact Or.inl r; exact Or.inr (Or.inl r); exact Or.inr (Or.inr (Or.inl r)))]
      exact ⟨rfl, h⟩
    · have n1 : ¬ mOf s (nI j) 2 = -9 := fun r => g1 (Or.inl r)
      have n2 : ¬ mOf s (nI j) 2 = nI k := fun r => g1 (Or.inr (Or.inl r))
      have n3 : pMOpen s (knv c) (nI k) := Decidable.byContradiction (fun r => g1 (Or.inr (Or.inr r)))
      rw [if_neg (show ¬ (pFin c (nI j) ∨ aT 24 (kpl c) (nI j) = nI k ∨ ¬ pOpen c (nI k)) from by
        rintro (r | r | r)
        · exact n1 (e2.symm.trans r)
        · exact n2 (e2.symm.trans r)
        · exact r (eo.mpr n3)), e1, eb]
      by_cases g2 : mOf s (nI j) 1 ≤ s 3
      · rw [if_pos g2, if_neg (by rintro (r | r | r | r); exact n1 r; exact n2 r; exact r n3; exact r g2)]
        obtain ⟨a, ha, ha6, ep, oa⟩ := place_nI h.2.2.1 hj n1
        have T := R2_take h hj ep ha n3 hk6 (fun e => n2 (by rw [ep, e]))
        exact ⟨R2_great T, T⟩
      · rw [if_neg g2, if_pos (Or.inr (Or.inr (Or.inr g2)))]
        exact ⟨rfl, h⟩
  · rw [if_neg (show ¬ (pHasJ c p ∧ pHasS c q) from g), if_neg g]
    exact ⟨rfl, h⟩
theorem apart_iff {c : CS} {s : Nat → Int32} (h : rC c s) {i j : Nat} (hi : i < knj c) (hj : j < knj c) : pApart c (nI i) (nI j) ↔ ¬ mOf s (nI i) 2 = -9 ∧ ¬ mOf s (nI j) 2 = -9 ∧ ¬ mOf s (nI i) 2 = mOf s (nI j) 2 := by
  show (¬ aT 24 (kpl c) (nI i) = -9 ∧ ¬ aT 24 (kpl c) (nI j) = -9 ∧ ¬ aT 24 (kpl c) (nI i) = aT 24 (kpl c) (nI j)) ↔ _
  rw [rc_pl h hi, rc_pl h hj]
theorem R2_exch {c : CS} {s : Nat → Int32} (h : R2 c s) {i j : Nat} (hi : i < knj c) (hj : j < knj c) (n1 : ¬ mOf s (nI i) 2 = -9) (n2 : ¬ mOf s (nI j) 2 = -9) (n3 : ¬ mOf s (nI i) 2 = mOf s (nI j) 2) : R2 (sExch c (nI i) (nI j)) (mGoes (mGoes s (nI i) (mOf s (nI j) 2)) (nI j) (mOf s (nI i) 2)) := by
  obtain ⟨a, ha, ha6, ea, oa⟩ := place_nI h.2.2.1 hi n1
  obtain ⟨b, hb, hb6, eb, ob⟩ := place_nI h.2.2.1 hj n2
  have hab : ¬ b = a := fun e => n3 (by rw [ea, eb, e])
  have hij : ¬ j = i := fun e => n3 (by rw [e])
  unfold sExch
  rw [rc_pl h.1 hi, rc_pl h.1 hj, ea, eb]
  have T := R2_take h hi ea ha ob hb6 hab
  have p2 : mOf (mGoes s (nI i) (nI b)) (nI j) 2 = nI b := by rw [goes_2 s (rc_j h.1 hi) (rc_j h.1 hj), if_neg hij]; exact eb
  exact R2_take T hj p2 hb (open_s1 (goes_s1 s (rc_j h.1 hi) _) oa) ha6 (fun e => hab e.symm)
theorem exch_eq {c : CS} {s : Nat → Int32} (h : R2 c s) (p q : Int32) : (fExch c p q).1 = (gExch s (knv c) (knj c) p q).1 ∧ R2 (fExch c p q).2 (gExch s (knv c) (knj c) p q).2 := by
  unfold fExch gExch
  by_cases g : pHas (knj c) p ∧ pHas (knj c) q ∧ ¬ p = q
  · rw [if_pos (show pHasJ c p ∧ pHasJ c q ∧ ¬ p = q from g), if_pos g]
    obtain ⟨i, hi, rfl⟩ := has_ex g.1 h.1.1.2.2.2
    obtain ⟨j, hj, rfl⟩ := has_ex g.2.1 h.1.1.2.2.2
    have eb := h.1.2.2.2.2.2.2.1
    have ea := apart_iff h.1 hi hj
    rw [rc_pr h.1 hi, rc_pr h.1 hj, eb]
    by_cases g1 : pMDone s (nI i) ∨ pMDone s (nI j) ∨ mOf s (nI i) 2 = mOf s (nI j) 2 ∨ ¬ mOf s (nI i) 1 + mOf s (nI j) 1 ≤ s 3
    · rw [if_pos g1, if_neg (fun r => by
        have r1 := ea.mp r.1
        rcases g1 with w | w | w | w
        · exact r1.1 w
        · exact r1.2.1 w
        · exact r1.2.2 w
        · exact w r.2)]
      exact ⟨rfl, h⟩
    · have n1 : ¬ mOf s (nI i) 2 = -9 := fun r => g1 (Or.inl r)
      have n2 : ¬ mOf s (nI j) 2 = -9 := fun r => g1 (Or.inr (Or.inl r))
      have n3 : ¬ mOf s (nI i) 2 = mOf s (nI j) 2 := fun r => g1 (Or.inr (Or.inr (Or.inl r)))
      have n4 : mOf s (nI i) 1 + mOf s (nI j) 1 ≤ s 3 := Decidable.byContradiction (fun r => g1 (Or.inr (Or.inr (Or.inr r))))
      rw [if_neg g1, if_pos ⟨ea.mpr ⟨n1, n2, n3⟩, n4⟩]
      have T := R2_exch h hi hj n1 n2 n3
      exact ⟨R2_great T, T⟩
  · rw [if_neg (show ¬ (pHasJ c p ∧ pHasJ c q ∧ ¬ p = q) from g), if_neg g]
    exact ⟨rfl, h⟩
theorem R2_ring {c : CS} {s : Nat → Int32} (h : R2 c s) {i j o : Nat} (hi : i < knj c) (hj : j < knj c) (ho : o < knj c) (n1 : ¬ mOf s (nI i) 2 = -9) (n2 : ¬ mOf s (nI j) 2 = -9) (n3 : ¬ mOf s (nI o) 2 = -9) (n4 : ¬ mOf s (nI i) 2 = mOf s (nI j) 2) (n5 : ¬ mOf s (nI j) 2 = mOf s (nI o) 2) (n6 : ¬ mOf s (nI i) 2 = mOf s (nI o) 2) : R2 (sRing c (nI i) (nI j) (nI o)) (mRing s (nI i) (nI j) (nI o)) := by
  obtain ⟨a, ha, ha6, ea, oa⟩ := place_nI h.2.2.1 hi n1
  obtain ⟨b, hb, hb6, eb, ob⟩ := place_nI h.2.2.1 hj n2
  obtain ⟨d, hd, hd6, ed, od⟩ := place_nI h.2.2.1 ho n3
  have hba : ¬ b = a := fun e => n4 (by rw [ea, eb, e])
  have hdb : ¬ d = b := fun e => n5 (by rw [ed, eb, e])
  have hda : ¬ d = a := fun e => n6 (by rw [ed, ea, e])
  have hji : ¬ j = i := fun e => n4 (by rw [e])
  have hoi : ¬ o = i := fun e => n6 (by rw [e])
  have hoj : ¬ o = j := fun e => n5 (by rw [e])
  have i24 := rc_j h.1 hi
  have j24 := rc_j h.1 hj
  have o24 := rc_j h.1 ho
  have T := R2_take h hi ea ha ob hb6 hba
  have p2 : mOf (mGoes s (nI i) (nI b)) (nI j) 2 = nI b := by rw [goes_2 s i24 j24, if_neg hji]; exact eb
  have p3 : mOf (mGoes s (nI i) (nI b)) (nI o) 2 = nI d := by rw [goes_2 s i24 o24, if_neg hoi]; exact ed
  have T2 := R2_take T hj p2 hb (open_s1 (goes_s1 s i24 _) od) hd6 hdb
  have p4 : mOf (mGoes (mGoes s (nI i) (nI b)) (nI j) (nI d)) (nI o) 2 = nI d := by rw [goes_2 _ j24 o24, if_neg hoj]; exact p3
  have T3 := R2_take T2 ho p4 hd (open_s1 (goes_s1 _ j24 _) (open_s1 (goes_s1 s i24 _) oa)) ha6 (fun e => hda e.symm)
  unfold sRing mRing
  rw [rc_pl h.1 hi, rc_pl h.1 hj, ea, eb, ed]
  have q3 : aT 24 (kpl (sTake c (nI i) (nI b))) (nI o) = nI d := (rc_pl T.1 ho).trans p3
  rw [q3]
  exact T3
theorem ring_eq {c : CS} {s : Nat → Int32} (h : R2 c s) (p q r : Int32) : (fRing c p q r).1 = (gRing s (knv c) (knj c) p q r).1 ∧ R2 (fRing c p q r).2 (gRing s (knv c) (knj c) p q r).2 := by
  unfold fRing gRing
  by_cases g : (pHas (knj c) p ∧ pHas (knj c) q ∧ pHas (knj c) r) ∧ (¬ p = q ∧ ¬ q = r ∧ ¬ p = r)
  · rw [if_pos (show (pHasJ c p ∧ pHasJ c q ∧ pHasJ c r) ∧ (¬ p = q ∧ ¬ q = r ∧ ¬ r = p) from ⟨g.1, g.2.1, g.2.2.1, fun e => g.2.2.2 e.symm⟩), if_pos g]
    obtain ⟨i, hi, rfl⟩ := has_ex g.1.1 h.1.1.2.2.2
    obtain ⟨j, hj, rfl⟩ := has_ex g.1.2.1 h.1.1.2.2.2
    obtain ⟨o, ho, rfl⟩ := has_ex g.1.2.2 h.1.1.2.2.2
    have eb := h.1.2.2.2.2.2.2.1
    have a1 := apart_iff h.1 hi hj
    have a2 := apart_iff h.1 hj ho
    have a3 := apart_iff h.1 ho hi
    rw [rc_pr h.1 hi, rc_pr h.1 hj, rc_pr h.1 ho, eb]
    by_cases g1 : (pMDone s (nI i) ∨ pMDone s (nI j) ∨ pMDone s (nI o)) ∨ ¬ (¬ mOf s (nI i) 2 = mOf s (nI j) 2 ∧ ¬ mOf s (nI j) 2 = mOf s (nI o) 2 ∧ ¬ mOf s (nI i) 2 = mOf s (nI o) 2) ∨ ¬ mOf s (nI i) 1 + mOf s (nI j) 1 + mOf s (nI o) 1 ≤ s 3
    · rw [if_pos g1, if_neg (fun w => by
        have w1 := a1.mp w.1.1
        have w2 := a2.mp w.1.2.1
        have w3 := a3.mp w.1.2.2
        rcases g1 with (y | y | y) | y | y
        · exact w1.1 y
        · exact w1.2.1 y
        · exact w2.2.1 y
        · exact y ⟨w1.2.2, w2.2.2, fun e => w3.2.2 e.symm⟩
        · exact y w.2)]
      exact ⟨rfl, h⟩
    · have n1 : ¬ mOf s (nI i) 2 = -9 := fun y => g1 (Or.inl (Or.inl y))
      have n2 : ¬ mOf s (nI j) 2 = -9 := fun y => g1 (Or.inl (Or.inr (Or.inl y)))
      have n3 : ¬ mOf s (nI o) 2 = -9 := fun y => g1 (Or.inl (Or.inr (Or.inr y)))
      have n4 : ¬ mOf s (nI i) 2 = mOf s (nI j) 2 ∧ ¬ mOf s (nI j) 2 = mOf s (nI o) 2 ∧ ¬ mOf s (nI i) 2 = mOf s (nI o) 2 := Decidable.byContradiction (fun y => g1 (Or.inr (Or.inl y)))
      have n5 : mOf s (nI i) 1 + mOf s (nI j) 1 + mOf s (nI o) 1 ≤ s 3 := Decidable.byContradiction (fun y => g1 (Or.inr (Or.inr y)))
      rw [if_neg g1, if_pos ⟨⟨a1.mpr ⟨n1, n2, n4.1⟩, a2.mpr ⟨n2, n3, n4.2.1⟩, a3.mpr ⟨n3, n1, fun e => n4.2.2 e.symm⟩⟩, n5⟩]
      have T := R2_ring h hi hj ho n1 n2 n3 n4.1 n4.2.1 n4.2.2
      exact ⟨R2_great T, T⟩
  · rw [if_neg (show ¬ ((pHasJ c p ∧ pHasJ c q ∧ pHasJ c r) ∧ (¬ p = q ∧ ¬ q = r ∧ ¬ r = p)) from fun w => g ⟨w.1, w.2.1, w.2.2.1, fun e => w.2.2.2 e.symm⟩), if_neg g]
    exact ⟨rfl, h⟩
