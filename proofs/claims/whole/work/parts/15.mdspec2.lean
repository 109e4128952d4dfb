def mCnF (s : Nat → Int32) (k : Int32) : Nat → Int32
  | 0 => 0
  | j + 1 => if mOf s (nI j) 2 = k then mCnF s k j + 1 else mCnF s k j + 0
def mOnF (s : Nat → Int32) (k : Int32) : Nat → Int32
  | 0 => 0
  | j + 1 => if mOf s (nI j) 2 = k then mOnF s k j ||| (1 <<< (nI j &&& 31)) else mOnF s k j ||| 0
def mPrF (s : Nat → Int32) (k : Int32) : Nat → Int32
  | 0 => 0
  | j + 1 => if mOf s (nI j) 2 = k then mPrF s k j + mOf s (nI j) 1 else mPrF s k j + 0
def mEmF (s : Nat → Int32) (nv nj : Nat) : Nat → Int32
  | 0 => -9
  | k + 1 => if pMOpen s nv (nI k) ∧ (mEmF s nv nj k = -9 ∨ mLoad s nj (nI k) < mLoad s nj (mEmF s nv nj k)) then nI k else mEmF s nv nj k
def mEmpty (s : Nat → Int32) (nv nj : Nat) : Int32 := mEmF s nv nj nv
def mFuF (s : Nat → Int32) (nv nj : Nat) : Nat → Int32
  | 0 => -9
  | m + 1 => if pMOpen s nv (nI (nv - 1 - m)) ∧ (mFuF s nv nj m = -9 ∨ ¬ mLoad s nj (nI (nv - 1 - m)) < mLoad s nj (mFuF s nv nj m)) then nI (nv - 1 - m) else mFuF s nv nj m
def mFull (s : Nat → Int32) (nv nj : Nat) : Int32 := mFuF s nv nj nv
theorem down1 {nv i : Nat} (h : i < nv) : nI (nv - i) - 1 = nI (nv - 1 - i) := by
  rw [show nv - i = (nv - 1 - i) + 1 from by omega, nI_succ, Int32.add_sub_cancel]
theorem down2 {nv i : Nat} (h : i < nv) : nI (nv - (i + 1)) - 1 = nI (nv - 1 - i) + (-1) := by
  rw [show nv - (i + 1) = nv - 1 - i from by omega, Int32.sub_eq_add_neg]
theorem down0 {nv i : Nat} (h : i ≤ nv) (hn : nv ≤ 6) : nI (nv - i) - 1 < 0 ↔ i = nv := by
  constructor
  · intro q
    rcases Nat.lt_or_ge i nv with g | g
    · rw [down1 g] at q
      exact absurd q (nI_pos (by omega))
    · omega
  · intro e
    subst e
    rw [Nat.sub_self]
    decide
def mlF (s : Nat → Int32) (k gone : Int32) : Nat → Int32
  | 0 => -9
  | j + 1 => if mOf s (nI j) 2 = k ∧ ((gone >>> (nI j &&& 31)) &&& 1) = 0 then (if mlF s k gone j = -9 ∨ mOf s (mlF s k gone j) 0 < mOf s (nI j) 0 ∨ (mOf s (nI j) 0 = mOf s (mlF s k gone j) 0 ∧ mOf s (nI j) 1 < mOf s (mlF s k gone j) 1) then nI j else mlF s k gone j) else mlF s k gone j
def mLeaver (s : Nat → Int32) (nj : Nat) (k gone : Int32) : Int32 := mlF s k gone nj
theorem mlF_or (s : Nat → Int32) (k gone : Int32) : ∀ i, mlF s k gone i = -9 ∨ ∃ j, j < i ∧ mlF s k gone i = nI j
  | 0 => Or.inl rfl
  | i + 1 => by
    have h := mlF_or s k gone i
    have g : mlF s k gone i = -9 ∨ ∃ j, j < i + 1 ∧ mlF s k gone i = nI j := h.imp id (fun ⟨j, a, b⟩ => ⟨j, by omega, b⟩)
    unfold mlF
    split
    · split
      · exact Or.inr ⟨i, by omega, rfl⟩
      · exact g
    · exact g
theorem mlF_vp {s : Nat → Int32} {k gone : Int32} {i : Nat} (hi : i ≤ 24) (h : ¬ mlF s k gone i = -9) : vp_in (mlF s k gone i) 24 := by
  rcases mlF_or s k gone i with q | ⟨j, a, b⟩
  · exact absurd q h
  · rw [b]; exact vp_in_nI (by omega) (by decide)
def gActed (z : MS) (p : Int32) : MS := if p < 0 then z else uMkept (uMpast z (mPast (kMpast z) (kMbef z) (kMkept z))) (mKept (kMkept z))
def rUndo (z : MS) : Int32 := if kMkept z = 0 then -2 else nI (kMkept z - 1)
def gUndo (z : MS) : MS := if kMkept z = 0 then z else uMkept (uMs z (fun k => kMpast z (102 * (kMkept z - 1) + k))) (kMkept z - 1)
def mAddS (s : Nat → Int32) (nv : Nat) : Nat → Int32 := upd (upd s 1 (s 1 ||| (1 <<< (nI nv &&& 31)))) 0 (nI (nv + 1))
def mShut (s : Nat → Int32) (k : Int32) : Nat → Int32 := upd s 1 (s 1 &&& ((1 <<< (k &&& 31)) ^^^ (-1)))
def mOpenS (s : Nat → Int32) (k : Int32) : Nat → Int32 := upd s 1 (s 1 ||| (1 <<< (k &&& 31)))
def rMServer (s : Nat → Int32) (nv nj : Nat) (p w : Int32) : Int32 := if pHas nv p ∧ pIn w 0 4 then (if w = 0 then (if pMOpen s nv p then 1 else 0) else if w = 1 then mLoad s nj p else if w = 2 then mCnF s p nj else if w = 3 then (if mAll s nj = 0 then 0 else 1000 * mLoad s nj p / mAll s nj) else mOnF s p nj) else -1
def rMJob (s : Nat → Int32) (nj : Nat) (p w : Int32) : Int32 := if pHas nj p ∧ pIn w 0 3 then mOf s p w else -1
def rMCount (z : MS) (nv nj : Nat) (w : Int32) : Int32 := if w = 0 then nI nv else if w = 1 then mOpens (kMs z) else if w = 2 then nI nj else if w = 3 then mCnF (kMs z) (-9) nj else if w = 4 then mAll (kMs z) nj else if w = 5 then mGreat (kMs z) nv nj else if w = 6 then (if nI nv = 0 then 0 else mLoad (kMs z) nj (mEmpty (kMs z) nv nj)) else if w = 7 then mBound (kMs z) nj else if w = 8 then mTarget (kMs z) nj else if w = 9 then (if pMEven (kMs z) nv nj then 1 else 0) else if w = 10 then kMs z 3 else if w = 11 then kMs z 4 else if w = 12 then kMs z 5 else if w = 13 then nI (kMkept z) else if w = 14 then nI (kMtyped z) else -1
theorem in03 {w : Int32} (h : pIn w 0 3) : vp_in w 4 := by
  rcases pk_ix w (n := 4) (by decide) with q | q | ⟨j, hj, rfl⟩
  · exact absurd q h.1
  · exact absurd (Int32.lt_of_lt_of_le (by decide : (3 : Int32) < nI 4) q) h.2
  · exact vp_in_nI hj (by decide)
/-- a server empties: the reference's rounds -/
def emS (s : Nat → Int32) (k : Int32) (nv nj : Nat) : Nat → (Nat → Int32)
  | 0 => s
  | i + 1 => mGoes (emS s k nv nj i) (mLeaver (emS s k nv nj i) nj k 0) (mEmpty (emS s k nv nj i) nv nj)
def mCnt (s : Nat → Int32) (k : Int32) : Nat → Nat
  | 0 => 0
  | j + 1 => if mOf s (nI j) 2 = k then mCnt s k j + 1 else mCnt s k j
theorem mCnt_le (s : Nat → Int32) (k : Int32) : ∀ j, mCnt s k j ≤ j
  | 0 => Nat.le_refl _
  | j + 1 => by
    have h := mCnt_le s k j
    unfold mCnt
    split <;> omega
theorem mCnF_nI (s : Nat → Int32) (k : Int32) : ∀ j, mCnF s k j = nI (mCnt s k j)
  | 0 => rfl
  | j + 1 => by
    have h := mCnF_nI s k j
    unfold mCnF mCnt
    split
    · rw [h, nI_1]
    · rw [h, Int32.add_zero]
theorem MI_em {s : Nat → Int32} {k : Int32} {nv nj : Nat} (h : MI s nv nj) : ∀ i, MI (emS s k nv nj i) nv nj
  | 0 => h
  | i + 1 => MI_goes _ _ (MI_em h i)
abbrev emN (s : Nat → Int32) (k : Int32) (nj : Nat) : Nat := mCnt s k nj
def mEmpties (s : Nat → Int32) (k : Int32) (nv nj : Nat) : Nat → Int32 := emS (mShut s k) k nv nj (emN (mShut s k) k nj)
def gCloses (s : Nat → Int32) (nv nj : Nat) (k : Int32) : Int32 × (Nat → Int32) := if pHas nv k then (if pMOpen s nv k ∧ ¬ mOpens s = 1 ∧ mPrF s k nj ≤ s 3 then (nI (emN (mShut s k) k nj), mEmpties s k nv nj) else (-2, s)) else (-1, s)
def gOpen (z : MS) (nv : Nat) (p : Int32) : Int32 × MS := if pHas nv p then (if pMOpen (kMs z) nv p then (-2, z) else (mOpens (mOpenS (kMs z) p), gActed (uMs (uMbef z (kMs z)) (mOpenS (kMs z) p)) (mOpens (mOpenS (kMs z) p)))) else (-1, z)
def gAddServer (z : MS) (nv : Nat) : Int32 × MS := if nI nv = 6 then (-3, z) else (nI (nv + 1) - 1, gActed (uMs (uMbef z (kMs z)) (mAddS (kMs z) nv)) (nI (nv + 1) - 1))
def gSetBudget (z : MS) (p : Int32) : Int32 × MS := if pIn p 0 10000 then (kMs z 3, gActed (uMs (uMbef z (kMs z)) (upd (kMs z) 3 p)) (kMs z 3)) else (-1, z)
def gSetFactor (z : MS) (nj : Nat) (p : Int32) : Int32 × MS := if pIn p 100 400 then (mTarget (upd (kMs z) 4 p) nj, gActed (uMs (uMbef z (kMs z)) (upd (kMs z) 4 p)) (mTarget (upd (kMs z) 4 p) nj)) else (-1, z)
/-- an action whose part answers r and leaves the rows s -/
def gAct (z : MS) (x : Int32 × (Nat → Int32)) : MS := gActed (uMs (uMbef z (kMs z)) x.2) x.1
def gWithout (s : Nat → Int32) (nv nj : Nat) (p : Int32) : Int32 := if pHas nv p then (if pMOpen s nv p ∧ ¬ mOpens s = 1 then mGreat (mEmpties s p nv nj) nv nj else -2) else -1
