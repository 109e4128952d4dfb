theorem mV_njo {s : Nat → Int32} {nv nj : Nat} (h : mV s nv nj) : (s 2).toNatClampNeg = nj := by
  rw [h.1.2.2.1, nI_clamp (by have := h.1.2.2.2; omega)]
theorem mV_to {s : Nat → Int32} {nv nj : Nat} (h : mV s nv nj) : mV s nv (s 2).toNatClampNeg := by rw [mV_njo h]; exact h
theorem has_ex {n : Nat} {v : Int32} (h : pHas n v) (hn : n ≤ 24) : ∃ j, j < n ∧ v = nI j := by
  rcases pk_ix v (n := n) (by omega) with q | q | q
  · exact absurd q h.1
  · exact absurd q h.2
  · exact q
theorem open_s1 {s t : Nat → Int32} {nv : Nat} {k : Int32} (e : t 1 = s 1) (h : pMOpen s nv k) : pMOpen t nv k := ⟨h.1, by rw [e]; exact h.2⟩
theorem open_goes {s : Nat → Int32} {nv : Nat} {j k k2 : Int32} (hj : vp_in j 24) (h : pMOpen s nv k) : pMOpen (mGoes s j k2) nv k := by
  obtain ⟨i, hi, rfl⟩ := vp_in_of hj (by decide)
  exact open_s1 (goes_s1 s hi k2) h
theorem mV_goes {s : Nat → Int32} {nv nj : Nat} {j k : Int32} (hj : vp_in j 24) (hk : pMOpen s nv k) (h : mV s nv nj) : mV (mGoes s j k) nv nj := by
  refine ⟨MI_goes _ _ h.1, fun i hi => ?_⟩
  have hi2 : i < 24 := Nat.lt_of_lt_of_le hi h.1.2.2.2
  obtain ⟨a, ha, rfl⟩ := vp_in_of hj (by decide)
  rw [goes_2 s ha hi2]
  by_cases e : i = a
  · rw [if_pos e]
    exact Or.inr (open_goes hj hk)
  · rw [if_neg e]
    exact (h.2 i hi).imp id (fun q => open_goes hj q)
theorem place_open {s : Nat → Int32} {nv nj : Nat} {i : Int32} (h : mV s nv nj) (hi : pHas nj i) (hd : ¬ pMDone s i) : pMOpen s nv (mOf s i 2) := by
  obtain ⟨a, ha, rfl⟩ := has_ex hi h.1.2.2.2
  exact (h.2 a ha).resolve_left hd
theorem fin_2 (s : Nat → Int32) {j i : Nat} (hj : j < 24) (hi : i < 24) : mOf (upd s (6 + 4 * j + 2) (-9)) (nI i) 2 = if i = j then -9 else mOf s (nI i) 2 := by
  rw [mOf_2 _ hi, mOf_2 _ hi]
  unfold upd
  by_cases e : i = j
  · subst e; rw [if_pos rfl, if_pos rfl]
  · rw [if_neg (by omega), if_neg e]
theorem mV_fin {s : Nat → Int32} {nv nj : Nat} {j : Nat} (hj : j < 24) (h : mV s nv nj) : mV (upd s (6 + 4 * j + 2) (-9)) nv nj := by
  refine ⟨MI_upd _ _ (by omega) (by omega) h.1, fun i hi => ?_⟩
  have hi2 : i < 24 := Nat.lt_of_lt_of_le hi h.1.2.2.2
  rw [fin_2 s hj hi2]
  by_cases e : i = j
  · rw [if_pos e]; exact Or.inl rfl
  · rw [if_neg e]
    exact (h.2 i hi).imp id (fun q => open_s1 (by simp only [upd]; rw [if_neg (by omega)]) q)
theorem gFin_mV {s : Nat → Int32} {nv nj : Nat} (a : Int32) (h : mV s nv nj) : mV (gFin s nj a).2 nv nj := by
  unfold gFin
  split
  · rename_i q
    split
    · exact h
    · obtain ⟨j, hj, rfl⟩ := has_ex q h.1.2.2.2
      have h24 : j < 24 := Nat.lt_of_lt_of_le hj h.1.2.2.2
      show mV (upd s (6 + 4 * (nI j).toNatClampNeg + 2) (-9)) nv nj
      rw [nI_clamp (by omega)]
      exact mV_fin h24 h
  · exact h
theorem gMoves_mV {s : Nat → Int32} {nv nj : Nat} (a b : Int32) (h : mV s nv nj) : mV (gMoves s nv nj a b).2 nv nj := by
  unfold gMoves
  split
  · rename_i q
    split
    · exact h
    · rename_i r
      have ho : pMOpen s nv b := Decidable.of_not_not (fun h9 => r (Or.inr (Or.inr (Or.inl h9))))
      exact mV_goes (has_in q.1 h.1.2.2.2) ho h
  · exact h
theorem gExch_mV {s : Nat → Int32} {nv nj : Nat} (a b : Int32) (h : mV s nv nj) : mV (gExch s nv nj a b).2 nv nj := by
  unfold gExch
  split
  · rename_i q
    split
    · exact h
    · rename_i r
      have ha := has_in q.1 h.1.2.2.2
      have hb := has_in q.2.1 h.1.2.2.2
      have oa := place_open h q.1 (fun h9 => r (Or.inl h9))
      have ob := place_open h q.2.1 (fun h9 => r (Or.inr (Or.inl h9)))
      exact mV_goes hb (open_goes ha oa) (mV_goes ha ob h)
  · exact h

/-! the plan's step can be done -/
theorem st_ne9 {n : Nat} (h : n < 2 ^ 31) : ¬ nI n = -9 := by
  intro e
  have h2 := nI_pos (n := n) h
  rw [e] at h2
  exact h2 (by decide)
theorem gT_le (a b : Int32) : a ≤ gT a b := by
  unfold gT
  split
  · assumption
  · exact Int32.le_refl a
theorem gr_pos (s : Nat → Int32) (nj : Nat) : ∀ k, 0 ≤ grF s nj k
  | 0 => Int32.le_refl 0
  | k + 1 => Int32.le_trans (gr_pos s nj k) (gT_le _ _)
def fmW (s : Nat → Int32) (nv nj : Nat) (f : Int32) (x : F5) : Prop := f1 x = -9 ∨ ∃ j k : Nat, j < nj ∧ k < nv ∧ f1 x = nI j ∧ f2 x = nI k ∧ f3 x = -9 ∧ f4 x = mOf s (nI j) 1 ∧ mOf s (nI j) 2 = f ∧ ¬ nI k = f ∧ pMOpen s nv (nI k)
theorem fmIn_W {s : Nat → Int32} {nv nj : Nat} {f : Int32} {j : Nat} (hj : j < nj) (hp : mOf s (nI j) 2 = f) {x : F5} (hx : fmW s nv nj f x) : ∀ k, k ≤ nv → fmW s nv nj f (fmIn s nv nj f (nI j) x k)
  | 0, _ => hx
  | k + 1, hk => by
    have ih := fmIn_W hj hp hx k (by omega)
    unfold fmIn
    split
    · rename_i g
      split
      · exact ih
      · exact Or.inr ⟨j, k, hj, by omega, rfl, rfl, rfl, rfl, hp, g.1, g.2⟩
    · exact ih
theorem fmOut_W {s : Nat → Int32} {nv nj : Nat} {f : Int32} {x : F5} (hx : fmW s nv nj f x) : ∀ j, j ≤ nj → fmW s nv nj f (fmOut s nv nj f x j)
  | 0, _ => hx
  | j + 1, hj => by
    have ih := fmOut_W hx j (by omega)
    unfold fmOut
    split
    · rename_i g
      exact fmIn_W (by omega) g ih nv (Nat.le_refl _)
    · exact ih
def feW (s : Nat → Int32) (nj : Nat) (f : Int32) (x : F5) : Prop := f1 x = -9 ∨ ∃ j o : Nat, j < nj ∧ o < nj ∧ f1 x = nI j ∧ f2 x = mOf s (nI o) 2 ∧ f3 x = nI o ∧ f4 x = mOf s (nI j) 1 + mOf s (nI o) 1 ∧ mOf s (nI j) 2 = f ∧ ¬ mOf s (nI o) 2 = -9 ∧ ¬ mOf s (nI o) 2 = f
theorem feIn_W {s : Nat → Int32} {nj : Nat} {f : Int32} {j : Nat} (hj : j < nj) (hp : mOf s (nI j) 2 = f) {x : F5} (hx : feW s nj f x) : ∀ o, o ≤ nj → feW s nj f (feIn s nj f (nI j) x o)
  | 0, _ => hx
  | o + 1, ho => by
    have ih := feIn_W hj hp hx o (by omega)
    unfold feIn
    split
    · rename_i g
      split
      · exact ih
      · exact Or.inr ⟨j, o, hj, by omega, rfl, rfl, rfl, rfl, hp, g.1, g.2⟩
    · exact ih
theorem feOut_W {s : Nat → Int32} {nj : Nat} {f : Int32} {x : F5} (hx : feW s nj f x) : ∀ j, j ≤ nj → feW s nj f (feOut s nj f x j)
  | 0, _ => hx
  | j + 1, hj => by
    have ih := feOut_W hx j (by omega)
    unfold feOut
    split
    · rename_i g
      exact feIn_W (by omega) g ih nj (Nat.le_refl _)
    · exact ih
theorem fu_or (s : Nat → Int32) (nv nj : Nat) : ∀ m, m ≤ nv → (mFuF s nv nj m = -9 ∧ ∀ i, nv - m ≤ i → i < nv → ¬ pMOpen s nv (nI i)) ∨ ∃ i, i < nv ∧ mFuF s nv nj m = nI i ∧ pMOpen s nv (nI i)
  | 0, _ => Or.inl ⟨rfl, fun i a b => by omega⟩
  | m + 1, h => by
    have ih := fu_or s nv nj m (by omega)
    unfold mFuF
    split
    · rename_i g
      exact Or.inr ⟨nv - 1 - m, by omega, rfl, g.1⟩
    · rename_i g
      rcases ih with ⟨e, n⟩ | q
      · refine Or.inl ⟨e, fun i a b => ?_⟩
        by_cases d : i = nv - 1 - m
        · subst d
          exact fun o => g ⟨o, Or.inl e⟩
        · exact n i (by omega) b
      · exact Or.inr q
theorem no_open_done {s : Nat → Int32} {nv nj : Nat} (hV : mV s nv nj) (hn : ∀ i, i < nv → ¬ pMOpen s nv (nI i)) : ∀ j, j < nj → mOf s (nI j) 2 = -9 := by
  intro j hj
  refine (hV.2 j hj).resolve_right (fun o => ?_)
  obtain ⟨i, hi, e⟩ := has_ex o.1 (by have := hV.1.2.1; omega)
  rw [e] at o
  exact hn i hi o
theorem lo_done {s : Nat → Int32} {nj : Nat} (h : ∀ j, j < nj → mOf s (nI j) 2 = -9) {k : Int32} (hk : ¬ k = -9) : ∀ n, n ≤ nj → loF s k n = 0
  | 0, _ => rfl
  | n + 1, hn => by
    unfold loF
    rw [if_neg (fun e => hk (e.symm.trans (h n (by omega)))), lo_done h hk n (by omega)]
    exact Int32.add_zero 0
theorem gr_done {s : Nat → Int32} {nj : Nat} : ∀ n, (∀ k, k < n → mLoad s nj (nI k) = 0) → grF s nj n = 0
  | 0, _ => rfl
  | n + 1, h => by
    unfold grF
    rw [gr_done n (fun k hk => h k (by omega)), h n (by omega)]
    rfl
theorem al_done {s : Nat → Int32} {nj : Nat} (h : ∀ j, j < nj → mOf s (nI j) 2 = -9) : ∀ n, n ≤ nj → alF s n = 0
  | 0, _ => rfl
  | n + 1, hn => by
    unfold alF
    rw [if_pos (h n (by omega)), al_done h n (by omega)]
    exact Int32.add_zero 0
theorem bd_done {s : Nat → Int32} {nj : Nat} (h : ∀ j, j < nj → mOf s (nI j) 2 = -9) : ∀ n, n ≤ nj → bdF s n = 0
  | 0, _ => rfl
  | n + 1, hn => by
    unfold bdF
    rw [if_pos (h n (by omega)), bd_done h n (by omega)]
theorem op_nat (s : Nat → Int32) : ∀ k, k ≤ 31 → ∃ m, m ≤ k ∧ opF s k = nI m
  | 0, _ => ⟨0, Nat.le_refl _, rfl⟩
  | k + 1, hk => by
    obtain ⟨m, hm, e⟩ := op_nat s k (by omega)
    unfold opF
    rw [e, bit_v (s 1) (by omega)]
    split
    · exact ⟨m + 1, by omega, nI_1 m⟩
    · exact ⟨m, by omega, Int32.add_zero _⟩
theorem done_even {s : Nat → Int32} {nv nj : Nat} (hV : mV s nv nj) (h : ∀ j, j < nj → mOf s (nI j) 2 = -9) : pMEven s nv nj := by
  have e1 : mGreat s nv nj = 0 := gr_done nv (fun k hk => lo_done h (st_ne9 (by have := hV.1.2.1; omega)) nj (Nat.le_refl _))
  have e2 : mBound s nj = 0 := by
    unfold mBound
    split
    · rfl
    · rename_i q
      obtain ⟨m, hm, e⟩ := op_nat s 6 (by decide)
      have em : mOpens s = nI m := e
      have m0 : ¬ m = 0 := fun e0 => q (by rw [em, e0]; rfl)
      rw [em, show mAll s nj = 0 from al_done h nj (Nat.le_refl _), bd_done h nj (Nat.le_refl _)]
      rcases (show m = 1 ∨ m = 2 ∨ m = 3 ∨ m = 4 ∨ m = 5 ∨ m = 6 by omega) with rfl | rfl | rfl | rfl | rfl | rfl <;> decide
  show ¬ mTarget s nj < mGreat s nv nj
  unfold mTarget
  rw [e1, e2, Int32.zero_mul]
  decide
theorem full_ok {s : Nat → Int32} {nv nj : Nat} (hV : mV s nv nj) (h : ¬ pMEven s nv nj) : ∃ f, f < nv ∧ mFull s nv nj = nI f ∧ pMOpen s nv (nI f) := by
  rcases fu_or s nv nj nv (Nat.le_refl _) with ⟨e, n⟩ | q
  · exact absurd (done_even hV (no_open_done hV (fun i hi => n i (by omega) hi))) h
  · exact q
theorem app_m {w : MS} {nv nj j k : Nat} (hV : mV (kMs w) nv nj) (hj : j < nj) (hk : k < nv) (e1 : kMsj w = nI j) (e2 : kMsv w = nI k) (e3 : kMso w = -9) (h1 : ¬ mOf (kMs w) (nI j) 2 = -9) (h2 : ¬ mOf (kMs w) (nI j) 2 = nI k) (h3 : pMOpen (kMs w) nv (nI k)) (h4 : mOf (kMs w) (nI j) 1 ≤ kMs w 3) : tApp w nv nj = (mGreat (mGoes (kMs w) (nI j) (nI k)) nv nj, mGoes (kMs w) (nI j) (nI k)) := by
  have hn := hV.1.2.2.2
  have hm := hV.1.2.1
  unfold tApp gMoves
  rw [if_pos e3, e1, e2, if_pos ⟨has_ofN hj (by omega), has_ofN hk (by omega)⟩, if_neg]
  rintro (q | q | q | q)
  · exact h1 q
  · exact h2 q
  · exact q h3
  · exact q h4
theorem app_x {w : MS} {nv nj j o : Nat} (hV : mV (kMs w) nv nj) (hj : j < nj) (ho : o < nj) (e1 : kMsj w = nI j) (e3 : kMso w = nI o) (h1 : ¬ mOf (kMs w) (nI j) 2 = -9) (h2 : ¬ mOf (kMs w) (nI o) 2 = -9) (h3 : ¬ mOf (kMs w) (nI j) 2 = mOf (kMs w) (nI o) 2) (h4 : mOf (kMs w) (nI j) 1 + mOf (kMs w) (nI o) 1 ≤ kMs w 3) : tApp w nv nj = (mGreat (mGoes (mGoes (kMs w) (nI j) (mOf (kMs w) (nI o) 2)) (nI o) (mOf (kMs w) (nI j) 2)) nv nj, mGoes (mGoes (kMs w) (nI j) (mOf (kMs w) (nI o) 2)) (nI o) (mOf (kMs w) (nI j) 2)) := by
  have hn := hV.1.2.2.2
  unfold tApp gExch
  rw [e3, if_neg (st_ne9 (by omega)), e1, if_pos ⟨has_ofN hj (by omega), has_ofN ho (by omega), fun e => h3 (by rw [e])⟩, if_neg]
  rintro (q | q | q | q)
  · exact h1 q
  · exact h2 q
  · exact h3 q
  · exact q h4
/-- what the step that is found is: a move, or an exchange -/
def okM (s : Nat → Int32) (nv nj : Nat) (f : Int32) (w : MS) : Prop := ∃ j k : Nat, j < nj ∧ k < nv ∧ kMsj w = nI j ∧ kMsv w = nI k ∧ kMso w = -9 ∧ mOf s (nI j) 2 = f ∧ ¬ nI k = f ∧ pMOpen s nv (nI k) ∧ mOf s (nI j) 1 ≤ s 3
def okX (s : Nat → Int32) (nj : Nat) (f : Int32) (w : MS) : Prop := ∃ j o : Nat, j < nj ∧ o < nj ∧ kMsj w = nI j ∧ kMsv w = mOf s (nI o) 2 ∧ kMso w = nI o ∧ mOf s (nI j) 2 = f ∧ ¬ mOf s (nI o) 2 = -9 ∧ ¬ mOf s (nI o) 2 = f ∧ mOf s (nI j) 1 + mOf s (nI o) 1 ≤ s 3
theorem find_ok {z : MS} {nv nj : Nat} (hF : pFind z nv nj) : okM (kMs z) nv nj (mFull (kMs z) nv nj) (gFind z nv nj) ∨ okX (kMs z) nj (mFull (kMs z) nv nj) (gFind z nv nj) := by
  unfold gFind
  rw [if_neg hF.1]
  by_cases hp : pPos (gFM z nv nj (mFull (kMs z) nv nj))
  · rw [if_pos hp]
    left
    have v : fmW (kMs z) nv nj (mFull (kMs z) nv nj) (mFM z nv nj (mFull (kMs z) nv nj)) := fmOut_W (Or.inl rfl) nj (Nat.le_refl _)
    obtain ⟨j, k, hj, hk, a1, a2, a3, a4, a5, a6, a7⟩ := v.resolve_left hp.1
    have h4 : mOf (kMs z) (nI j) 1 ≤ kMs z 3 := by
      rw [← a4]
      exact Int32.not_lt.mp hp.2
    exact ⟨j, k, hj, hk, a1, a2, a3, a5, a6, a7, h4⟩
  · rw [if_neg hp]
    right
    have hx := hF.2.resolve_left hp
    have v : feW (kMs z) nj (mFull (kMs z) nv nj) (mFE (gFM z nv nj (mFull (kMs z) nv nj)) nj (mFull (kMs z) nv nj)) := feOut_W (Or.inl rfl) nj (Nat.le_refl _)
    obtain ⟨j, o, hj, ho, a1, a2, a3, a4, a5, a6, a7⟩ := v.resolve_left hx.1
    have h4 : mOf (kMs z) (nI j) 1 + mOf (kMs z) (nI o) 1 ≤ kMs z 3 := by
      rw [← a4]
      exact Int32.not_lt.mp hx.2
    exact ⟨j, o, hj, ho, a1, a2, a3, a5, a6, a7, h4⟩
theorem ev_ok {z : MS} {nv nj : Nat} (hV : mV (kMs z) nv nj) (hF : pFind z nv nj) : ¬ (tApp (gFind z nv nj) nv nj).1 < 0 ∧ mV (kMs (mStp nv nj z)) nv nj := by
  have hs : kMs (gFind z nv nj) = kMs z := gFind_s z nv nj
  have hV2 : mV (kMs (gFind z nv nj)) nv nj := by rw [hs]; exact hV
  refine ⟨?_, ?_⟩
  · obtain ⟨f, hf, ef, of⟩ := full_ok hV hF.1
    have hf9 : ¬ mFull (kMs z) nv nj = -9 := by
      rw [ef]
      exact st_ne9 (by have := hV.1.2.1; omega)
    rcases find_ok hF with ⟨j, k, hj, hk, a1, a2, a3, a5, a6, a7, h4⟩ | ⟨j, o, hj, ho, a1, a2, a3, a5, a6, a7, h4⟩
    · rw [app_m hV2 hj hk a1 a2 a3 (by rw [hs, a5]; exact hf9) (by rw [hs, a5]; exact fun e => a6 e.symm) (by rw [hs]; exact a7) (by rw [hs]; exact h4)]
      exact Int32.not_lt.mpr (gr_pos _ _ _)
    · rw [app_x hV2 hj ho a1 a3 (by rw [hs, a5]; exact hf9) (by rw [hs]; exact a6) (by rw [hs, a5]; exact fun e => a7 e.symm) (by rw [hs]; exact h4)]
      exact Int32.not_lt.mpr (gr_pos _ _ _)
  · show mV (tApp (gFind z nv nj) nv nj).2 nv nj
    unfold tApp
    split
    · exact gMoves_mV _ _ hV2
    · exact gExch_mV _ _ hV2
