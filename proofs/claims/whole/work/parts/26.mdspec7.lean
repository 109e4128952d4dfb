/-! the reference: the fewest moves -/
def lsMv (s : Nat → Int32) (p a b : Int32) (L : Nat → Int32) : Nat → Int32 :=
  let L1 := upd L a.toNatClampNeg (L a.toNatClampNeg - mOf s p 0)
  upd L1 b.toNatClampNeg (L1 b.toNatClampNeg + mOf s p 0)
theorem ls_back (s : Nat → Int32) {p a b : Int32} (L : Nat → Int32) (ha : vp_in a 6) (hb : vp_in b 6) (h : ¬ b = a) : lsMv s p b a (lsMv s p a b L) = L := by
  obtain ⟨i, hi, rfl⟩ := vp_in_of ha (by decide)
  obtain ⟨j, hj, rfl⟩ := vp_in_of hb (by decide)
  have hne : ¬ j = i := fun e => h (by rw [e])
  unfold lsMv
  simp only [nI_clamp (show i < 2 ^ 31 by omega), nI_clamp (show j < 2 ^ 31 by omega)]
  funext k
  by_cases e : k = i
  · subst e; simp [upd, hne, Ne.symm hne]
  · by_cases e2 : k = j
    · subst e2; simp [upd, hne, Ne.symm hne, e]
    · simp [upd, e, e2]
def blF (t : Int32) (L : Nat → Int32) : Nat → Int32
  | 0 => 1
  | i + 1 => if ¬ blF t L i = 0 ∧ L i ≤ t then 1 else 0
abbrev pBel (t : Int32) (L : Nat → Int32) : Prop := ¬ blF t L 6 = 0
theorem bl_bI (t : Int32) (L : Nat → Int32) : ∀ i, blF t L i = bI (¬ blF t L i = 0)
  | 0 => (bI_t (show ¬ (1 : Int32) = 0 by decide)).symm
  | i + 1 => by
    unfold blF
    split
    · exact (bI_t (by decide)).symm
    · exact (bI_f (by decide)).symm
def tmK (s : Nat → Int32) (nv : Nat) (t pr : Int32) (L : Nat → Int32) (j : Nat) (best : Int32) : Nat → Int32
  | 0 => best
  | k + 1 => if ¬ nI k = mOf s (nI j) 2 ∧ pMOpen s nv (nI k) then (if pBel t (lsMv s (nI j) (mOf s (nI j) 2) (nI k) L) ∧ (tmK s nv t pr L j best k = -9 ∨ pr + mOf s (nI j) 1 < tmK s nv t pr L j best k) then pr + mOf s (nI j) 1 else tmK s nv t pr L j best k) else tmK s nv t pr L j best k
def tmJ (s : Nat → Int32) (nv : Nat) (t pr : Int32) (L : Nat → Int32) (f : Nat) (best : Int32) : Nat → Int32
  | 0 => best
  | j + 1 => if j < f then best else (if mOf s (nI j) 2 = -9 then tmJ s nv t pr L f best j else tmK s nv t pr L j (tmJ s nv t pr L f best j) nv)
theorem tmJ_f (s : Nat → Int32) (nv : Nat) (t pr : Int32) (L : Nat → Int32) (f : Nat) (best : Int32) : tmJ s nv t pr L f best f = best := by
  cases f with
  | zero => rfl
  | succ f => unfold tmJ; rw [if_pos (Nat.lt_succ_self f)]
theorem tmJ_s {s : Nat → Int32} {nv : Nat} {t pr : Int32} {L : Nat → Int32} {f : Nat} {best : Int32} {j : Nat} (hf : f ≤ j) (h : nv = 0 ∨ ¬ mOf s (nI j) 2 = -9) : tmJ s nv t pr L f best (j + 1) = tmK s nv t pr L j (tmJ s nv t pr L f best j) nv := by
  show (if _ then _ else _) = _
  rw [if_neg (by omega)]
  rcases h with h | h
  · subst h
    by_cases g : mOf s (nI j) 2 = -9
    · rw [if_pos g]; rfl
    · rw [if_neg g]
  · rw [if_neg h]
theorem tmJ_n {s : Nat → Int32} {nv : Nat} {t pr : Int32} {L : Nat → Int32} {f : Nat} {best : Int32} {j : Nat} (hf : f ≤ j) (h : mOf s (nI j) 2 = -9) : tmJ s nv t pr L f best (j + 1) = tmJ s nv t pr L f best j := by
  show (if _ then _ else _) = _
  rw [if_neg (by omega), if_pos h]
theorem from_in {s : Nat → Int32} {nv nj j : Nat} (h : mV s nv nj) (hj : j < nj) (hn : ¬ mOf s (nI j) 2 = -9) : vp_in (mOf s (nI j) 2) 6 := by
  have o := (h.2 j hj).resolve_left hn
  rcases pk_ix (mOf s (nI j) 2) (n := nv) (by have := h.1.2.1; omega) with q | q | ⟨i, hi, e⟩
  · exact absurd q o.1.1
  · exact absurd q o.1.2
  · rw [e]; exact vp_in_nI (by have := h.1.2.1; omega) (by decide)
def gL (s : Nat → Int32) (nv nj : Nat) : Nat → Int32 := fun k => if nI nv ≤ nI k then 0 else mLoad s nj (nI k)
def dbK (s : Nat → Int32) (nv nj : Nat) (t : Int32) (L : Nat → Int32) (j : Nat) (best : Int32) : Nat → Int32
  | 0 => best
  | k + 1 => if ¬ nI k = mOf s (nI j) 2 ∧ pMOpen s nv (nI k) then tmJ s nv t (mOf s (nI j) 1) (lsMv s (nI j) (mOf s (nI j) 2) (nI k) L) (j + 1) (dbK s nv nj t L j best k) nj else dbK s nv nj t L j best k
def dbJ (s : Nat → Int32) (nv nj : Nat) (t : Int32) (L : Nat → Int32) (best : Int32) : Nat → Int32
  | 0 => best
  | j + 1 => if mOf s (nI j) 2 = -9 then dbJ s nv nj t L best j else dbK s nv nj t L j (dbJ s nv nj t L best j) nv
theorem dbJ_s {s : Nat → Int32} {nv nj : Nat} {t : Int32} {L : Nat → Int32} {best : Int32} {j : Nat} (h : nv = 0 ∨ ¬ mOf s (nI j) 2 = -9) : dbJ s nv nj t L best (j + 1) = dbK s nv nj t L j (dbJ s nv nj t L best j) nv := by
  show (if _ then _ else _) = _
  rcases h with h | h
  · subst h
    by_cases g : mOf s (nI j) 2 = -9
    · rw [if_pos g]; rfl
    · rw [if_neg g]
  · rw [if_neg h]
theorem dbJ_n {s : Nat → Int32} {nv nj : Nat} {t : Int32} {L : Nat → Int32} {best : Int32} {j : Nat} (h : mOf s (nI j) 2 = -9) : dbJ s nv nj t L best (j + 1) = dbJ s nv nj t L best j := by
  show (if _ then _ else _) = _
  rw [if_pos h]
def fw1 (s : Nat → Int32) (nv nj : Nat) : Int32 := tmJ s nv (mTarget s nj) 0 (gL s nv nj) 0 (-9) nj
def fw2 (s : Nat → Int32) (nv nj : Nat) (i : Nat) : Int32 := dbJ s nv nj (mTarget s nj) (gL s nv nj) (fw1 s nv nj) i
theorem fw1_0 (s : Nat → Int32) (nv : Nat) : fw1 s nv 0 = -9 := rfl
theorem fw_c1 {s : Nat → Int32} {nv nj : Nat} (h : nj = 0 ∨ fw1 s nv nj = -9) : fw1 s nv nj = -9 := by
  rcases h with h | h
  · subst h; exact fw1_0 s nv
  · exact h
def rMFew (s : Nat → Int32) (nv nj : Nat) (w : Int32) : Int32 := if pIn w 0 1 then (if pMEven s nv nj then 0 else (if fw1 s nv nj = -9 then (if fw2 s nv nj nj = -9 then -9 else (if w = 0 then 2 else fw2 s nv nj nj)) else (if w = 0 then 1 else fw1 s nv nj))) else -1
/-- what is left in the two fields that fewest writes -/
def gMFew (z : MS) (nv nj : Nat) (w : Int32) : MS := if pIn w 0 1 then (if pMEven (kMs z) nv nj then z else uMcheap (uMloads z (gL (kMs z) nv nj)) (if fw1 (kMs z) nv nj = -9 then fw2 (kMs z) nv nj nj else fw1 (kMs z) nv nj)) else z
/-! the same state, told in another way: with plain names, so that a check is short -/
theorem s_X (z : MS) (A : Nat → Int32) (T : Int32) : kMs (uMcheap (uMloads z A) T) = kMs z := rfl
theorem s_Y (z : MS) (T : Int32) : kMs (uMcheap z T) = kMs z := rfl
theorem l_X (z : MS) (A : Nat → Int32) (T : Int32) : kMloads (uMcheap (uMloads z A) T) = A := rfl
theorem MI_X {z : MS} {nv nj : Nat} (A : Nat → Int32) (T : Int32) (h : MI (kMs z) nv nj) : MI (kMs (uMcheap (uMloads z A) T)) nv nj := h
theorem MI_Y {z : MS} {nv nj : Nat} (T : Int32) (h : MI (kMs z) nv nj) : MI (kMs (uMcheap z T)) nv nj := h
theorem mV_X {z : MS} {nv nj : Nat} (A : Nat → Int32) (T : Int32) (h : mV (kMs z) nv nj) : mV (kMs (uMcheap (uMloads z A) T)) nv nj := h
theorem l_Y (z : MS) (T : Int32) : kMloads (uMcheap z T) = kMloads z := rfl
theorem c_X (z : MS) (A : Nat → Int32) (T : Int32) : kMcheap (uMcheap (uMloads z A) T) = T := rfl
theorem uL_Y (z : MS) (T : Int32) (B : Nat → Int32) : uMloads (uMcheap z T) B = uMcheap (uMloads z B) T := rfl
theorem uL_X (z : MS) (A : Nat → Int32) (T : Int32) (B : Nat → Int32) : uMloads (uMcheap (uMloads z A) T) B = uMcheap (uMloads z B) T := rfl
theorem uC_X (z : MS) (A : Nat → Int32) (T B : Int32) : uMcheap (uMcheap (uMloads z A) T) B = uMcheap (uMloads z A) B := rfl
theorem ls_Y (z : MS) (T p a b : Int32) : uMloads (uMcheap z T) (lsMv (kMs (uMcheap z T)) p a b (kMloads (uMcheap z T))) = uMcheap (uMloads z (lsMv (kMs z) p a b (kMloads z))) T := by rw [s_Y, l_Y, uL_Y]
theorem ls_X (z : MS) (A : Nat → Int32) (T p a b : Int32) : uMloads (uMcheap (uMloads z A) T) (lsMv (kMs (uMcheap (uMloads z A) T)) p a b (kMloads (uMcheap (uMloads z A) T))) = uMcheap (uMloads z (lsMv (kMs z) p a b A)) T := by rw [s_X, l_X, uL_X]
theorem tm_X (z : MS) (A : Nat → Int32) (T t pr : Int32) (nv nj f : Nat) : uMcheap (uMcheap (uMloads z A) T) (tmJ (kMs (uMcheap (uMloads z A) T)) nv t pr (kMloads (uMcheap (uMloads z A) T)) f (kMcheap (uMcheap (uMloads z A) T)) nj) = uMcheap (uMloads z A) (tmJ (kMs z) nv t pr A f T nj) := by rw [s_X, l_X, c_X, uC_X]
theorem un_X (z : MS) (T : Int32) : uMcheap (uMloads z (kMloads z)) T = uMcheap z T := rfl
