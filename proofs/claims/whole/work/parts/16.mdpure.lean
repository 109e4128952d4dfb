/-! what a round of emptying does -/
theorem mOf_nI (s : Nat → Int32) {j w : Nat} (hj : j < 24) (hw : w < 4) : mOf s (nI j) (nI w) = s (6 + 4 * j + w) := by
  unfold mOf
  rw [nI_clamp (by omega), nI_clamp (by omega)]
theorem mOf_0 (s : Nat → Int32) {j : Nat} (hj : j < 24) : mOf s (nI j) 0 = s (6 + 4 * j) := mOf_nI s (w := 0) hj (by decide)
theorem mOf_1 (s : Nat → Int32) {j : Nat} (hj : j < 24) : mOf s (nI j) 1 = s (6 + 4 * j + 1) := mOf_nI s (w := 1) hj (by decide)
theorem mOf_2 (s : Nat → Int32) {j : Nat} (hj : j < 24) : mOf s (nI j) 2 = s (6 + 4 * j + 2) := mOf_nI s (w := 2) hj (by decide)
theorem mOf_3 (s : Nat → Int32) {j : Nat} (hj : j < 24) : mOf s (nI j) 3 = s (6 + 4 * j + 3) := mOf_nI s (w := 3) hj (by decide)
theorem goes_at (s : Nat → Int32) {j : Nat} (hj : j < 24) (k : Int32) (i : Nat) : mGoes s (nI j) k i = if i = 5 then s 5 + 1 else if i = 3 then s 3 - s (6 + 4 * j + 1) else if i = 6 + 4 * j + 3 then s (6 + 4 * j + 3) + 1 else if i = 6 + 4 * j + 2 then k else s i := by
  unfold mGoes
  simp only [nI_clamp (show j < 2 ^ 31 by omega)]
  rw [mOf_1 _ hj]
  simp only [upd]
  have e1 : ¬ (5 : Nat) = 3 := by decide
  have e2 : ¬ (5 : Nat) = 6 + 4 * j + 3 := by omega
  have e3 : ¬ (5 : Nat) = 6 + 4 * j + 2 := by omega
  have e4 : ¬ (3 : Nat) = 6 + 4 * j + 3 := by omega
  have e5 : ¬ (3 : Nat) = 6 + 4 * j + 2 := by omega
  have e6 : ¬ 6 + 4 * j + 1 = 6 + 4 * j + 3 := by omega
  have e7 : ¬ 6 + 4 * j + 1 = 6 + 4 * j + 2 := by omega
  have e8 : ¬ 6 + 4 * j + 3 = 6 + 4 * j + 2 := by omega
  simp only [if_neg e1, if_neg e2, if_neg e3, if_neg e4, if_neg e5, if_neg e6, if_neg e7, if_neg e8]
theorem goes_2 (s : Nat → Int32) {j i : Nat} (hj : j < 24) (hi : i < 24) (k : Int32) : mOf (mGoes s (nI j) k) (nI i) 2 = if i = j then k else mOf s (nI i) 2 := by
  rw [mOf_2 _ hi, mOf_2 _ hi, goes_at s hj]
  rw [if_neg (by omega), if_neg (by omega), if_neg (by omega)]
  by_cases e : i = j
  · rw [if_pos (by omega), if_pos e]
  · rw [if_neg (by omega), if_neg e]
theorem goes_0 (s : Nat → Int32) {j i : Nat} (hj : j < 24) (hi : i < 24) (k : Int32) : mOf (mGoes s (nI j) k) (nI i) 0 = mOf s (nI i) 0 := by
  rw [mOf_0 _ hi, mOf_0 _ hi, goes_at s hj]
  rw [if_neg (by omega), if_neg (by omega), if_neg (by omega), if_neg (by omega)]
theorem goes_1 (s : Nat → Int32) {j i : Nat} (hj : j < 24) (hi : i < 24) (k : Int32) : mOf (mGoes s (nI j) k) (nI i) 1 = mOf s (nI i) 1 := by
  rw [mOf_1 _ hi, mOf_1 _ hi, goes_at s hj]
  rw [if_neg (by omega), if_neg (by omega), if_neg (by omega), if_neg (by omega)]
theorem goes_3 (s : Nat → Int32) {j i : Nat} (hj : j < 24) (hi : i < 24) (k : Int32) : mOf (mGoes s (nI j) k) (nI i) 3 = if i = j then mOf s (nI i) 3 + 1 else mOf s (nI i) 3 := by
  rw [mOf_3 _ hi, mOf_3 s hi, goes_at s hj]
  rw [if_neg (by omega), if_neg (by omega)]
  by_cases e : i = j
  · subst e; rw [if_pos rfl, if_pos rfl]
  · rw [if_neg (by omega), if_neg (by omega), if_neg e]
theorem goes_s1 (s : Nat → Int32) {j : Nat} (hj : j < 24) (k : Int32) : mGoes s (nI j) k 1 = s 1 := by
  rw [goes_at s hj, if_neg (by decide), if_neg (by decide), if_neg (by omega), if_neg (by omega)]
theorem cnt_goes (s : Nat → Int32) {j : Nat} (hj : j < 24) {k k2 : Int32} (h : mOf s (nI j) 2 = k) (hk : ¬ k2 = k) : ∀ n, n ≤ 24 → mCnt (mGoes s (nI j) k2) k n + (if j < n then 1 else 0) = mCnt s k n
  | 0, _ => by simp [mCnt]
  | n + 1, hn => by
    have ih := cnt_goes s hj h hk n (by omega)
    unfold mCnt
    rw [goes_2 s hj (by omega)]
    by_cases e : n = j
    · subst e
      rw [if_pos rfl, if_neg hk, if_pos h, if_pos (by omega)]
      rw [if_neg (by omega)] at ih
      omega
    · rw [if_neg e]
      by_cases g : mOf s (nI n) 2 = k
      · rw [if_pos g, if_pos g]
        by_cases l : j < n
        · rw [if_pos l] at ih; rw [if_pos (by omega)]; omega
        · rw [if_neg l] at ih; rw [if_neg (by omega)]; omega
      · rw [if_neg g, if_neg g]
        by_cases l : j < n
        · rw [if_pos l] at ih; rw [if_pos (by omega)]; omega
        · rw [if_neg l] at ih; rw [if_neg (by omega)]; omega
theorem gone0 : ∀ j, j < 24 → (((0 : Int32) >>> (nI j &&& 31)) &&& 1) = 0 := by decide +kernel
theorem ml0 (s : Nat → Int32) (k : Int32) : ∀ n, n ≤ 24 → (mlF s k 0 n = -9 ↔ mCnt s k n = 0) ∧ (¬ mlF s k 0 n = -9 → ∃ j, j < n ∧ mlF s k 0 n = nI j ∧ mOf s (nI j) 2 = k)
  | 0, _ => ⟨by simp [mlF, mCnt], fun h => absurd rfl h⟩
  | n + 1, hn => by
    obtain ⟨i1, i2⟩ := ml0 s k n (by omega)
    have hne : ¬ nI n = -9 := by
      intro e
      have := nI_pos (n := n) (by omega)
      rw [e] at this
      exact this (by decide)
    unfold mlF mCnt
    by_cases g : mOf s (nI n) 2 = k
    · rw [if_pos ⟨g, gone0 n (by omega)⟩, if_pos g]
      split
      · refine ⟨⟨fun h => absurd h hne, fun h => by omega⟩, fun _ => ⟨n, by omega, rfl, g⟩⟩
      · rename_i q
        have h9 : ¬ mlF s k 0 n = -9 := fun e => q (Or.inl e)
        refine ⟨⟨fun h => absurd h h9, fun h => by omega⟩, fun _ => ?_⟩
        obtain ⟨j, a, b, c⟩ := i2 h9
        exact ⟨j, by omega, b, c⟩
    · rw [if_neg (fun h => g h.1), if_neg g]
      refine ⟨i1, fun h => ?_⟩
      obtain ⟨j, a, b, c⟩ := i2 h
      exact ⟨j, by omega, b, c⟩
theorem mEmF_or (s : Nat → Int32) (nv nj : Nat) : ∀ i, mEmF s nv nj i = -9 ∨ pMOpen s nv (mEmF s nv nj i)
  | 0 => Or.inl rfl
  | i + 1 => by
    have h := mEmF_or s nv nj i
    unfold mEmF
    split
    · rename_i q
      exact Or.inr q.1
    · exact h
theorem em_s1 {s : Nat → Int32} {k : Int32} {nv nj : Nat} (hj : nj ≤ 24) (hk : pHas nv k) (ho : ¬ pMOpen s nv k) : ∀ i, i ≤ mCnt s k nj → emS s k nv nj i 1 = s 1 ∧ mCnt (emS s k nv nj i) k nj + i = mCnt s k nj
  | 0, _ => ⟨rfl, rfl⟩
  | i + 1, hi => by
    obtain ⟨a1, a2⟩ := em_s1 hj hk ho i (by omega)
    obtain ⟨b1, b2⟩ := ml0 (emS s k nv nj i) k nj hj
    have h9 : ¬ mlF (emS s k nv nj i) k 0 nj = -9 := fun e => by have := b1.mp e; omega
    obtain ⟨j, j1, j2, j3⟩ := b2 h9
    have hne : ¬ mEmpty (emS s k nv nj i) nv nj = k := by
      intro e
      rcases mEmF_or (emS s k nv nj i) nv nj nv with q | q
      · have e2 : k = -9 := e.symm.trans q
        exact hk.1 (by rw [e2]; decide)
      · refine ho ?_
        have e2 : mEmF (emS s k nv nj i) nv nj nv = k := e
        rw [e2] at q
        exact ⟨q.1, by rw [← a1]; exact q.2⟩
    have e1 : emS s k nv nj (i + 1) = mGoes (emS s k nv nj i) (nI j) (mEmpty (emS s k nv nj i) nv nj) := by
      show mGoes _ (mLeaver (emS s k nv nj i) nj k 0) _ = _
      rw [show mLeaver (emS s k nv nj i) nj k 0 = nI j from j2]
    rw [e1]
    refine ⟨(goes_s1 _ (by omega) _).trans a1, ?_⟩
    have c := cnt_goes (emS s k nv nj i) (j := j) (by omega) j3 hne nj hj
    rw [if_pos j1] at c
    omega
theorem em_end {s : Nat → Int32} {k : Int32} {nv nj : Nat} (hj : nj ≤ 24) (hk : pHas nv k) (ho : ¬ pMOpen s nv k) {i : Nat} (hi : i ≤ mCnt s k nj) : mLeaver (emS s k nv nj i) nj k 0 = -9 ↔ i = mCnt s k nj := by
  obtain ⟨a1, a2⟩ := em_s1 hj hk ho i hi
  rw [show mLeaver (emS s k nv nj i) nj k 0 = mlF (emS s k nv nj i) k 0 nj from rfl, (ml0 (emS s k nv nj i) k nj hj).1]
  omega
theorem shut_bit : ∀ k, k < 6 → ∀ x : Int32, (((x &&& ((1 <<< (nI k &&& 31)) ^^^ (-1))) >>> (nI k &&& 31)) &&& 1) = 0 := by
  intro k hk x
  rw [bit_off (by omega), bt_clr x (by omega) (by omega)]
  simp
theorem shut_no (s : Nat → Int32) {nv : Nat} (hn : nv ≤ 6) (k : Int32) : ¬ pMOpen (mShut s k) nv k := by
  rintro ⟨h1, h2⟩
  rcases pk_ix k (n := nv) (by omega) with q | q | ⟨j, hj, rfl⟩
  · exact h1.1 q
  · exact h1.2 q
  · have e : mShut s (nI j) 1 = s 1 &&& ((1 <<< (nI j &&& 31)) ^^^ (-1)) := by simp [mShut, upd]
    rw [e, shut_bit j (by omega)] at h2
    exact absurd h2 (by decide)
