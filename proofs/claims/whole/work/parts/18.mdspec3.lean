abbrev F5 : Type := Int64 × (Int32 × (Int32 × (Int32 × Int32)))
abbrev fb (x : F5) : Int64 := x.1
abbrev f1 (x : F5) : Int32 := x.2.1
abbrev f2 (x : F5) : Int32 := x.2.2.1
abbrev f3 (x : F5) : Int32 := x.2.2.2.1
abbrev f4 (x : F5) : Int32 := x.2.2.2.2
def keyOf (t p j k : Int32) : Int64 := (((t.toInt64 * 100000000) + (p.toInt64 * 10000)) + (j.toInt64 * 100)) + k.toInt64
def keyM (s : Nat → Int32) (nj : Nat) (f j k : Int32) : Int64 := keyOf (gT (mLoad s nj f - mOf s j 0) (mLoad s nj k + mOf s j 0)) (mOf s j 1) j k
def fmIn (s : Nat → Int32) (nv nj : Nat) (f j : Int32) (x : F5) : Nat → F5
  | 0 => x
  | k + 1 => if ¬ nI k = f ∧ pMOpen s nv (nI k) then (if fb (fmIn s nv nj f j x k) ≤ keyM s nj f j (nI k) then fmIn s nv nj f j x k else (keyM s nj f j (nI k), (j, (nI k, (-9, mOf s j 1))))) else fmIn s nv nj f j x k
def fmOut (s : Nat → Int32) (nv nj : Nat) (f : Int32) (x : F5) : Nat → F5
  | 0 => x
  | j + 1 => if mOf s (nI j) 2 = f then fmIn s nv nj f (nI j) (fmOut s nv nj f x j) nv else fmOut s nv nj f x j
def keyE (s : Nat → Int32) (nj : Nat) (f j o : Int32) : Int64 := keyOf (gT (mLoad s nj f + (mOf s o 0 - mOf s j 0)) (mLoad s nj (mOf s o 2) - (mOf s o 0 - mOf s j 0))) (mOf s j 1 + mOf s o 1) j o
def feIn (s : Nat → Int32) (nj : Nat) (f j : Int32) (x : F5) : Nat → F5
  | 0 => x
  | o + 1 => if ¬ mOf s (nI o) 2 = -9 ∧ ¬ mOf s (nI o) 2 = f then (if fb (feIn s nj f j x o) ≤ keyE s nj f j (nI o) then feIn s nj f j x o else (keyE s nj f j (nI o), (j, (mOf s (nI o) 2, (nI o, mOf s j 1 + mOf s (nI o) 1))))) else feIn s nj f j x o
def feOut (s : Nat → Int32) (nj : Nat) (f : Int32) (x : F5) : Nat → F5
  | 0 => x
  | j + 1 => if mOf s (nI j) 2 = f then feIn s nj f (nI j) (feOut s nj f x j) nj else feOut s nj f x j
abbrev fSt (z : MS) (nj : Nat) (f : Int32) : F5 := ((mLoad (kMs z) nj f).toInt64 * 100000000, (-9, (kMsv z, (kMso z, kMsp z))))
abbrev uF (z : MS) (x : F5) : MS := uMsp (uMso (uMsv (uMsj z (f1 x)) (f2 x)) (f3 x)) (f4 x)
def mFM (z : MS) (nv nj : Nat) (f : Int32) : F5 := fmOut (kMs z) nv nj f (fSt z nj f) nj
def mFE (z : MS) (nj : Nat) (f : Int32) : F5 := feOut (kMs z) nj f (fSt z nj f) nj
abbrev pPos (z : MS) : Prop := ¬ kMsj z = -9 ∧ ¬ kMs z 3 < kMsp z
def gFM (z : MS) (nv nj : Nat) (f : Int32) : MS := uF z (mFM z nv nj f)
def gFE (z : MS) (nj : Nat) (f : Int32) : MS := uF z (mFE z nj f)
abbrev pFind (z : MS) (nv nj : Nat) : Prop := ¬ pMEven (kMs z) nv nj ∧ (pPos (gFM z nv nj (mFull (kMs z) nv nj)) ∨ pPos (gFE (gFM z nv nj (mFull (kMs z) nv nj)) nj (mFull (kMs z) nv nj)))
def gFind (z : MS) (nv nj : Nat) : MS := if pMEven (kMs z) nv nj then z else (if pPos (gFM z nv nj (mFull (kMs z) nv nj)) then gFM z nv nj (mFull (kMs z) nv nj) else gFE (gFM z nv nj (mFull (kMs z) nv nj)) nj (mFull (kMs z) nv nj))
theorem gFind_s (z : MS) (nv nj : Nat) : kMs (gFind z nv nj) = kMs z := by
  unfold gFind
  split
  · rfl
  · split <;> rfl
def rMStep (z : MS) (nv nj : Nat) (w : Int32) : Int32 := if pIn w 0 3 then (if pFind z nv nj then (if w = 0 then kMsj (gFind z nv nj) else if w = 1 then kMsv (gFind z nv nj) else if w = 2 then kMso (gFind z nv nj) else kMsp (gFind z nv nj)) else -9) else -1
/-- rows that can be planned on: a job is finished or on an open server -/
def mV (s : Nat → Int32) (nv nj : Nat) : Prop := MI s nv nj ∧ ∀ j, j < nj → mOf s (nI j) 2 = -9 ∨ pMOpen s nv (mOf s (nI j) 2)
def tApp (z : MS) (nv nj : Nat) : Int32 × (Nat → Int32) := if kMso z = -9 then gMoves (kMs z) nv nj (kMsj z) (kMsv z) else gExch (kMs z) nv nj (kMsj z) (kMso z)
def mStp (nv nj : Nat) (z : MS) : MS := uMs (gFind z nv nj) (tApp (gFind z nv nj) nv nj).2
def itM (nv nj : Nat) (z : MS) : Nat → MS
  | 0 => z
  | i + 1 => mStp nv nj (itM nv nj z i)
def evF (nv nj : Nat) : Nat → MS → Nat × MS
  | 0, z => (0, z)
  | n + 1, z => if pFind z nv nj then ((evF nv nj n (mStp nv nj z)).1 + 1, (evF nv nj n (mStp nv nj z)).2) else (0, gFind z nv nj)
theorem fmOut_s {s : Nat → Int32} {nv nj : Nat} {f : Int32} {x : F5} {j : Nat} (h : nv = 0 ∨ mOf s (nI j) 2 = f) : fmOut s nv nj f x (j + 1) = fmIn s nv nj f (nI j) (fmOut s nv nj f x j) nv := by
  show (if _ then _ else _) = _
  rcases h with h | h
  · subst h
    by_cases g : mOf s (nI j) 2 = f
    · rw [if_pos g]
    · rw [if_neg g]; rfl
  · rw [if_pos h]
theorem feOut_s {s : Nat → Int32} {nj : Nat} {f : Int32} {x : F5} {j : Nat} (h : nj = 0 ∨ mOf s (nI j) 2 = f) : feOut s nj f x (j + 1) = feIn s nj f (nI j) (feOut s nj f x j) nj := by
  show (if _ then _ else _) = _
  rcases h with h | h
  · subst h
    by_cases g : mOf s (nI j) 2 = f
    · rw [if_pos g]
    · rw [if_neg g]; rfl
  · rw [if_pos h]
theorem MI_of {s t : Nat → Int32} {nv nj : Nat} (e : t = s) (h : MI s nv nj) : MI t nv nj := by rw [e]; exact h
