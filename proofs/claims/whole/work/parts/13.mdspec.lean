/-! the state of the reference: s, past, before, kept, stepJob, stepServer, stepOther, stepPrice, text, typed, at, failing, numbers, loads, cheapest -/
abbrev MS : Type := (Nat → Int32) × (Nat → Int32) × (Nat → Int32) × Nat × Int32 × Int32 × Int32 × Int32 × (Nat → Int32) × Nat × Nat × Int32 × (Nat → Int32) × (Nat → Int32) × Int32
abbrev kMs (z : MS) : Nat → Int32 := z.1
abbrev kMpast (z : MS) : Nat → Int32 := z.2.1
abbrev kMbef (z : MS) : Nat → Int32 := z.2.2.1
abbrev kMkept (z : MS) : Nat := z.2.2.2.1
abbrev kMsj (z : MS) : Int32 := z.2.2.2.2.1
abbrev kMsv (z : MS) : Int32 := z.2.2.2.2.2.1
abbrev kMso (z : MS) : Int32 := z.2.2.2.2.2.2.1
abbrev kMsp (z : MS) : Int32 := z.2.2.2.2.2.2.2.1
abbrev kMtext (z : MS) : Nat → Int32 := z.2.2.2.2.2.2.2.2.1
abbrev kMtyped (z : MS) : Nat := z.2.2.2.2.2.2.2.2.2.1
abbrev kMat (z : MS) : Nat := z.2.2.2.2.2.2.2.2.2.2.1
abbrev kMfail (z : MS) : Int32 := z.2.2.2.2.2.2.2.2.2.2.2.1
abbrev kMnums (z : MS) : Nat → Int32 := z.2.2.2.2.2.2.2.2.2.2.2.2.1
abbrev kMloads (z : MS) : Nat → Int32 := z.2.2.2.2.2.2.2.2.2.2.2.2.2.1
abbrev kMcheap (z : MS) : Int32 := z.2.2.2.2.2.2.2.2.2.2.2.2.2.2
abbrev uMs (z : MS) (v : Nat → Int32) : MS := (v, kMpast z, kMbef z, kMkept z, kMsj z, kMsv z, kMso z, kMsp z, kMtext z, kMtyped z, kMat z, kMfail z, kMnums z, kMloads z, kMcheap z)
abbrev uMpast (z : MS) (v : Nat → Int32) : MS := (kMs z, v, kMbef z, kMkept z, kMsj z, kMsv z, kMso z, kMsp z, kMtext z, kMtyped z, kMat z, kMfail z, kMnums z, kMloads z, kMcheap z)
abbrev uMbef (z : MS) (v : Nat → Int32) : MS := (kMs z, kMpast z, v, kMkept z, kMsj z, kMsv z, kMso z, kMsp z, kMtext z, kMtyped z, kMat z, kMfail z, kMnums z, kMloads z, kMcheap z)
abbrev uMkept (z : MS) (v : Nat) : MS := (kMs z, kMpast z, kMbef z, v, kMsj z, kMsv z, kMso z, kMsp z, kMtext z, kMtyped z, kMat z, kMfail z, kMnums z, kMloads z, kMcheap z)
abbrev uMsj (z : MS) (v : Int32) : MS := (kMs z, kMpast z, kMbef z, kMkept z, v, kMsv z, kMso z, kMsp z, kMtext z, kMtyped z, kMat z, kMfail z, kMnums z, kMloads z, kMcheap z)
abbrev uMsv (z : MS) (v : Int32) : MS := (kMs z, kMpast z, kMbef z, kMkept z, kMsj z, v, kMso z, kMsp z, kMtext z, kMtyped z, kMat z, kMfail z, kMnums z, kMloads z, kMcheap z)
abbrev uMso (z : MS) (v : Int32) : MS := (kMs z, kMpast z, kMbef z, kMkept z, kMsj z, kMsv z, v, kMsp z, kMtext z, kMtyped z, kMat z, kMfail z, kMnums z, kMloads z, kMcheap z)
abbrev uMsp (z : MS) (v : Int32) : MS := (kMs z, kMpast z, kMbef z, kMkept z, kMsj z, kMsv z, kMso z, v, kMtext z, kMtyped z, kMat z, kMfail z, kMnums z, kMloads z, kMcheap z)
abbrev uMtext (z : MS) (v : Nat → Int32) : MS := (kMs z, kMpast z, kMbef z, kMkept z, kMsj z, kMsv z, kMso z, kMsp z, v, kMtyped z, kMat z, kMfail z, kMnums z, kMloads z, kMcheap z)
abbrev uMtyped (z : MS) (v : Nat) : MS := (kMs z, kMpast z, kMbef z, kMkept z, kMsj z, kMsv z, kMso z, kMsp z, kMtext z, v, kMat z, kMfail z, kMnums z, kMloads z, kMcheap z)
abbrev uMat (z : MS) (v : Nat) : MS := (kMs z, kMpast z, kMbef z, kMkept z, kMsj z, kMsv z, kMso z, kMsp z, kMtext z, kMtyped z, v, kMfail z, kMnums z, kMloads z, kMcheap z)
abbrev uMfail (z : MS) (v : Int32) : MS := (kMs z, kMpast z, kMbef z, kMkept z, kMsj z, kMsv z, kMso z, kMsp z, kMtext z, kMtyped z, kMat z, v, kMnums z, kMloads z, kMcheap z)
abbrev uMnums (z : MS) (v : Nat → Int32) : MS := (kMs z, kMpast z, kMbef z, kMkept z, kMsj z, kMsv z, kMso z, kMsp z, kMtext z, kMtyped z, kMat z, kMfail z, v, kMloads z, kMcheap z)
abbrev uMloads (z : MS) (v : Nat → Int32) : MS := (kMs z, kMpast z, kMbef z, kMkept z, kMsj z, kMsv z, kMso z, kMsp z, kMtext z, kMtyped z, kMat z, kMfail z, kMnums z, v, kMcheap z)
abbrev uMcheap (z : MS) (v : Int32) : MS := (kMs z, kMpast z, kMbef z, kMkept z, kMsj z, kMsv z, kMso z, kMsp z, kMtext z, kMtyped z, kMat z, kMfail z, kMnums z, kMloads z, v)
abbrev mdT (cI : ClassId) (q : Nat → Nat) (z : MS) : va_W := [(q 0, .inr (5, [.ref (q 1), .ref (q 2), .ref (q 3), .int (nI (kMkept z)), .int (kMsj z), .int (kMsv z), .int (kMso z), .int (kMsp z), .ref (q 4), .int (nI (kMtyped z)), .int (nI (kMat z)), .int (kMfail z), .ref (q 5), .ref (q 6), .int (kMcheap z)])), (q 1, .inl (cI, 102, .inl (kMs z))), (q 2, .inl (cI, 510, .inl (kMpast z))), (q 3, .inl (cI, 102, .inl (kMbef z))), (q 4, .inl (cI, 100, .inl (kMtext z))), (q 5, .inl (cI, 3, .inl (kMnums z))), (q 6, .inl (cI, 6, .inl (kMloads z)))]
def MI (s : Nat → Int32) (nv nj : Nat) : Prop := s 0 = nI nv ∧ nv ≤ 6 ∧ s 2 = nI nj ∧ nj ≤ 24
abbrev pIn (v lo hi : Int32) : Prop := ¬ v < lo ∧ ¬ hi < v
abbrev pHas (n : Nat) (v : Int32) : Prop := ¬ v < 0 ∧ ¬ nI n ≤ v
def gT (a b : Int32) : Int32 := if a ≤ b then b else a
def mOf (s : Nat → Int32) (p w : Int32) : Int32 := s (6 + 4 * p.toNatClampNeg + w.toNatClampNeg)
abbrev pMOpen (s : Nat → Int32) (nv : Nat) (k : Int32) : Prop := pHas nv k ∧ ((s 1 >>> (k &&& 31)) &&& 1) = 1
abbrev pMDone (s : Nat → Int32) (j : Int32) : Prop := mOf s j 2 = -9
def opF (s : Nat → Int32) : Nat → Int32
  | 0 => 0
  | k + 1 => opF s k + ((s 1 >>> (nI k &&& 31)) &&& 1)
def mOpens (s : Nat → Int32) : Int32 := opF s 6
def loF (s : Nat → Int32) (k : Int32) : Nat → Int32
  | 0 => 0
  | j + 1 => if mOf s (nI j) 2 = k then loF s k j + mOf s (nI j) 0 else loF s k j + 0
def mLoad (s : Nat → Int32) (nj : Nat) (k : Int32) : Int32 := loF s k nj
def alF (s : Nat → Int32) : Nat → Int32
  | 0 => 0
  | j + 1 => if pMDone s (nI j) then alF s j + 0 else alF s j + mOf s (nI j) 0
def mAll (s : Nat → Int32) (nj : Nat) : Int32 := alF s nj
def grF (s : Nat → Int32) (nj : Nat) : Nat → Int32
  | 0 => 0
  | k + 1 => gT (grF s nj k) (mLoad s nj (nI k))
def mGreat (s : Nat → Int32) (nv nj : Nat) : Int32 := grF s nj nv
def bdF (s : Nat → Int32) : Nat → Int32
  | 0 => 0
  | j + 1 => if pMDone s (nI j) then bdF s j else gT (bdF s j) (mOf s (nI j) 0)
def mBound (s : Nat → Int32) (nj : Nat) : Int32 := if mOpens s = 0 then 0 else gT (bdF s nj) ((mAll s nj + mOpens s - 1) / mOpens s)
def mTarget (s : Nat → Int32) (nj : Nat) : Int32 := mBound s nj * s 4 / 100
abbrev pMEven (s : Nat → Int32) (nv nj : Nat) : Prop := ¬ mTarget s nj < mGreat s nv nj
def mGoes (s : Nat → Int32) (j k : Int32) : Nat → Int32 :=
  let s1 := upd s (6 + 4 * j.toNatClampNeg + 2) k
  let s2 := upd s1 (6 + 4 * j.toNatClampNeg + 3) (s1 (6 + 4 * j.toNatClampNeg + 3) + 1)
  let s3 := upd s2 3 (s2 3 - mOf s2 j 1)
  upd s3 5 (s3 5 + 1)
theorem MI_goes {s : Nat → Int32} {nv nj : Nat} (j k : Int32) (h : MI s nv nj) : MI (mGoes s j k) nv nj := by
  obtain ⟨h1, h2, h3, h4⟩ := h
  refine ⟨?_, h2, ?_, h4⟩
  · rw [← h1]; simp [mGoes, upd]
  · rw [← h3]; simp [mGoes, upd]
theorem MI_upd {s : Nat → Int32} {nv nj : Nat} (i : Nat) (v : Int32) (h0 : i ≠ 0) (h2 : i ≠ 2) (h : MI s nv nj) : MI (upd s i v) nv nj := by
  obtain ⟨g1, g2, g3, g4⟩ := h
  refine ⟨?_, g2, ?_, g4⟩
  · rw [← g1]; simp [upd, Ne.symm h0]
  · rw [← g3]; simp [upd, Ne.symm h2]
theorem has_in {n : Nat} {v : Int32} (h : pHas n v) (hn : n ≤ 24) : vp_in v 24 := by
  rcases pk_ix v (n := n) (by omega) with q | q | ⟨j, hj, rfl⟩
  · exact absurd q h.1
  · exact absurd q h.2
  · exact vp_in_nI (by omega) (by decide)
theorem has_ofN {n j : Nat} (h : j < n) (hn : n < 2 ^ 31) : pHas n (nI j) := ⟨nI_pos (by omega), nI_ge h hn⟩
theorem in_lt {v : Int32} {n : Nat} (h : vp_in v n) : v.toNatClampNeg < n := Nat.not_le.mp fun q => h (Or.inr q)
theorem in_eq {v : Int32} {n : Nat} (h : vp_in v n) (hn : n < 2 ^ 31) : v = nI v.toNatClampNeg := by
  obtain ⟨j, hj, rfl⟩ := vp_in_of h hn
  rw [nI_clamp (by omega)]
theorem jx {p : Int32} (h : vp_in p 24) (w : Nat) : 6 + 4 * p + nI w = nI (6 + 4 * p.toNatClampNeg + w) := by
  have e := in_eq h (by decide)
  have h1 : 6 + 4 * nI p.toNatClampNeg + nI w = nI (6 + 4 * p.toNatClampNeg + w) := by
    rw [show (6 : Int32) = nI 6 from rfl, show (4 : Int32) = nI 4 from rfl, pk_mul, nI_add, nI_add]
  rw [← h1, ← e]
theorem jn (a w : Nat) : 6 + 4 * nI a + nI w = nI (6 + 4 * a + w) := by
  rw [show (6 : Int32) = nI 6 from rfl, show (4 : Int32) = nI 4 from rfl, pk_mul, nI_add, nI_add]
theorem jn0 (a : Nat) : 6 + 4 * nI a = nI (6 + 4 * a) := by
  rw [show (6 : Int32) = nI 6 from rfl, show (4 : Int32) = nI 4 from rfl, pk_mul, nI_add]
theorem hxl (a b : Nat) : 102 * nI a + nI b = nI (102 * a + b) := by
  rw [show (102 : Int32) = nI 102 from rfl, pk_mul, nI_add]
theorem bI_iff {a b : Prop} [Decidable a] [Decidable b] (h : a ↔ b) : bI a = bI b := by
  by_cases q : a
  · rw [bI_t q, bI_t (h.mp q)]
  · rw [bI_f q, bI_f (fun r => q (h.mpr r))]
theorem isv {n : Nat} (hn : n ≤ 24) (v : Int32) : ¬ nI n - 1 < v ↔ ¬ nI n ≤ v := by
  have fr : v.toInt < 2147483648 ∧ -2147483648 ≤ v.toInt := ⟨by have := v.toInt_lt; omega, by have := v.le_toInt; omega⟩
  have e1 : (nI n).toInt = n := nI_toInt (by omega)
  have e2 : (nI n - 1).toInt = (n : Int) - 1 := by
    rw [show (1 : Int32) = nI 1 from rfl, pk_sub_toInt (by omega) (by decide)]
    rfl
  rw [Int32.not_lt, Int32.not_le, Int32.le_iff_toInt_le, Int32.lt_iff_toInt_lt, e1, e2]
  omega
/-- rows that are laid one by one -/
def cpF (f g : Nat → Int32) (i : Nat) : Nat → Int32 := fun k => if k < i then f k else g k
def shF (p : Nat → Int32) (i : Nat) : Nat → Int32 := fun k => if k < i then p (k + 102) else p k
def wrF (p b : Nat → Int32) (a i : Nat) : Nat → Int32 := fun k => if a ≤ k ∧ k < a + i then b (k - a) else p k
def rwF (p g : Nat → Int32) (a i : Nat) : Nat → Int32 := fun k => if k < i then p (a + k) else g k
theorem cpF_s (f g : Nat → Int32) (i : Nat) : cpF f g (i + 1) = upd (cpF f g i) i (f i) := by
  funext k
  simp only [cpF, upd]
  by_cases e : k = i
  · subst e; simp
  · rw [if_neg e]
    by_cases h : k < i
    · rw [if_pos h, if_pos (by omega)]
    · rw [if_neg h, if_neg (by omega)]
theorem cpF_0 (f g : Nat → Int32) : cpF f g 0 = g := by funext k; simp [cpF]
theorem shF_0 (p : Nat → Int32) : shF p 0 = p := by funext k; simp [shF]
theorem shF_s (p : Nat → Int32) (i : Nat) : shF p (i + 1) = upd (shF p i) i (shF p i (i + 102)) := by
  funext k
  have h9 : ¬ i + 102 < i := by omega
  simp only [shF, upd, if_neg h9]
  by_cases e : k = i
  · subst e; simp
  · rw [if_neg e]
    by_cases h : k < i
    · rw [if_pos h, if_pos (by omega)]
    · rw [if_neg h, if_neg (by omega)]
theorem wrF_0 (p b : Nat → Int32) (a : Nat) : wrF p b a 0 = p := by
  funext k
  simp only [wrF]
  rw [if_neg (by omega)]
theorem wrF_s (p b : Nat → Int32) (a i : Nat) : wrF p b a (i + 1) = upd (wrF p b a i) (a + i) (b i) := by
  funext k
  simp only [wrF, upd]
  by_cases e : k = a + i
  · subst e; rw [if_pos ⟨by omega, by omega⟩, if_pos rfl, show a + i - a = i from by omega]
  · rw [if_neg e]
    by_cases h : a ≤ k ∧ k < a + i
    · rw [if_pos h, if_pos ⟨h.1, by omega⟩]
    · rw [if_neg h, if_neg (by omega)]
theorem rwF_0 (p g : Nat → Int32) (a : Nat) : rwF p g a 0 = g := by funext k; simp [rwF]
theorem rwF_s (p g : Nat → Int32) (a i : Nat) : rwF p g a (i + 1) = upd (rwF p g a i) i (p (a + i)) := by
  funext k
  simp only [rwF, upd]
  by_cases e : k = i
  · subst e; simp
  · rw [if_neg e]
    by_cases h : k < i
    · rw [if_pos h, if_pos (by omega)]
    · rw [if_neg h, if_neg (by omega)]
/-- what keeps() lays: the rows behind it -/
def mPast (p b : Nat → Int32) (d : Nat) : Nat → Int32 := if d = 5 then wrF (shF p 408) b 408 102 else wrF p b (102 * d) 102
def mKept (d : Nat) : Nat := if d = 5 then 5 else d + 1
def mAdds (s : Nat → Int32) (nj : Nat) (size price k : Int32) : Nat → Int32 := upd (upd (upd (upd (upd s (6 + 4 * nj) size) (6 + 4 * nj + 1) price) (6 + 4 * nj + 2) k) (6 + 4 * nj + 3) 0) 2 (nI (nj + 1))
def gAdds (s : Nat → Int32) (nv nj : Nat) (size price k : Int32) : Int32 × (Nat → Int32) := if pIn size 1 1000 ∧ pIn price 0 100 ∧ pHas nv k then (if pMOpen s nv k then (if nI nj = 24 then (-3, s) else (nI (nj + 1) - 1, mAdds s nj size price k)) else (-2, s)) else (-1, s)
def gFin (s : Nat → Int32) (nj : Nat) (j : Int32) : Int32 × (Nat → Int32) := if pHas nj j then (if mOf s j 2 = -9 then (-2, s) else (mLoad (upd s (6 + 4 * j.toNatClampNeg + 2) (-9)) nj (mOf s j 2), upd s (6 + 4 * j.toNatClampNeg + 2) (-9))) else (-1, s)
def gMoves (s : Nat → Int32) (nv nj : Nat) (j k : Int32) : Int32 × (Nat → Int32) := if pHas nj j ∧ pHas nv k then (if pMDone s j ∨ mOf s j 2 = k ∨ ¬ pMOpen s nv k ∨ ¬ mOf s j 1 ≤ s 3 then (-2, s) else (mGreat (mGoes s j k) nv nj, mGoes s j k)) else (-1, s)
def gExch (s : Nat → Int32) (nv nj : Nat) (i j : Int32) : Int32 × (Nat → Int32) := if pHas nj i ∧ pHas nj j ∧ ¬ i = j then (if pMDone s i ∨ pMDone s j ∨ mOf s i 2 = mOf s j 2 ∨ ¬ mOf s i 1 + mOf s j 1 ≤ s 3 then (-2, s) else (mGreat (mGoes (mGoes s i (mOf s j 2)) j (mOf s i 2)) nv nj, mGoes (mGoes s i (mOf s j 2)) j (mOf s i 2))) else (-1, s)
def mRing (s : Nat → Int32) (i j k : Int32) : Nat → Int32 := mGoes (mGoes (mGoes s i (mOf s j 2)) j (mOf s k 2)) k (mOf s i 2)
def gRing (s : Nat → Int32) (nv nj : Nat) (i j k : Int32) : Int32 × (Nat → Int32) := if (pHas nj i ∧ pHas nj j ∧ pHas nj k) ∧ (¬ i = j ∧ ¬ j = k ∧ ¬ i = k) then (if (pMDone s i ∨ pMDone s j ∨ pMDone s k) ∨ ¬ (¬ mOf s i 2 = mOf s j 2 ∧ ¬ mOf s j 2 = mOf s k 2 ∧ ¬ mOf s i 2 = mOf s k 2) ∨ ¬ mOf s i 1 + mOf s j 1 + mOf s k 1 ≤ s 3 then (-2, s) else (mGreat (mRing s i j k) nv nj, mRing s i j k)) else (-1, s)
