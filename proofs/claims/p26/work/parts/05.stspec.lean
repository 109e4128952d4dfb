/-! the state of a Step: job, goal, other, price, greater -/
abbrev SS : Type := Int32 × Int32 × Int32 × Int32 × Int32
abbrev kSjob (x : SS) : Int32 := x.1
abbrev kSgoal (x : SS) : Int32 := x.2.1
abbrev kSother (x : SS) : Int32 := x.2.2.1
abbrev kSprice (x : SS) : Int32 := x.2.2.2.1
abbrev kSgreater (x : SS) : Int32 := x.2.2.2.2
abbrev uSjob (x : SS) (v : Int32) : SS := (v, x.2)
abbrev uSgoal (x : SS) (v : Int32) : SS := (x.1, v, x.2.2)
abbrev uSother (x : SS) (v : Int32) : SS := (x.1, x.2.1, v, x.2.2.2)
abbrev uSprice (x : SS) (v : Int32) : SS := (x.1, x.2.1, x.2.2.1, v, x.2.2.2.2)
abbrev uSgreater (x : SS) (v : Int32) : SS := (x.1, x.2.1, x.2.2.1, x.2.2.2.1, v)
abbrev stT (_ : ClassId) (a : Nat) (x : SS) : va_W := [(a, .inr (3, [.int (kSjob x), .int (kSgoal x), .int (kSother x), .int (kSprice x), .int (kSgreater x)]))]
abbrev mx (x y : Int32) : Int32 := if x < y then y else x
def sOffer (x : SS) (mine to its cost behind : Int32) : SS := if behind < kSgreater x ∨ (¬ kSjob x = -9 ∧ behind = kSgreater x ∧ ¬ kSprice x ≤ cost) then (mine, to, its, cost, behind) else x
def sStart (x : SS) (load : Int32) : SS := uSgreater (uSjob x (-9)) load
abbrev pPoss (x : SS) (c : CS) : Prop := ¬ kSjob x = -9 ∧ ¬ kbu c < kSprice x
def mvIn (c : CS) (f mine : Int32) (x : SS) : Nat → SS
  | 0 => x
  | k + 1 => if ¬ nI k = f ∧ aT 6 (kop c) (nI k) = 1 then sOffer (mvIn c f mine x k) mine (nI k) (-9) (aT 24 (kpr c) mine) (mx (aT 6 (kld c) f - aT 24 (ksz c) mine) (aT 6 (kld c) (nI k) + aT 24 (ksz c) mine)) else mvIn c f mine x k
def mvOut (c : CS) (f : Int32) (x : SS) : Nat → SS
  | 0 => sStart x (aT 6 (kld c) f)
  | j + 1 => if aT 24 (kpl c) (nI j) = f then mvIn c f (nI j) (mvOut c f x j) (knv c) else mvOut c f x j
def sChM (c : CS) (f : Int32) (x : SS) : SS := mvOut c f x (knj c)
def exIn (c : CS) (f mine : Int32) (x : SS) : Nat → SS
  | 0 => x
  | o + 1 => if ¬ aT 24 (kpl c) (nI o) = f ∧ ¬ aT 24 (kpl c) (nI o) = -9 then sOffer (exIn c f mine x o) mine (aT 24 (kpl c) (nI o)) (nI o) (aT 24 (kpr c) mine + aT 24 (kpr c) (nI o)) (mx (aT 6 (kld c) f - (aT 24 (ksz c) mine - aT 24 (ksz c) (nI o))) (aT 6 (kld c) (aT 24 (kpl c) (nI o)) + (aT 24 (ksz c) mine - aT 24 (ksz c) (nI o)))) else exIn c f mine x o
def exOut (c : CS) (f : Int32) (x : SS) : Nat → SS
  | 0 => sStart x (aT 6 (kld c) f)
  | j + 1 => if aT 24 (kpl c) (nI j) = f then exIn c f (nI j) (exOut c f x j) (knj c) else exOut c f x j
def sChE (c : CS) (f : Int32) (x : SS) : SS := exOut c f x (knj c)
abbrev pChoose (c : CS) (t : Int32) (x : SS) : Prop := t < aT 6 (kld c) (sFull c) ∧ (pPoss (sChM c (sFull c) x) c ∨ pPoss (sChE c (sFull c) (sChM c (sFull c) x)) c)
def sChoose (c : CS) (t : Int32) (x : SS) : SS := if t < aT 6 (kld c) (sFull c) then (if pPoss (sChM c (sFull c) x) c then sChM c (sFull c) x else sChE c (sFull c) (sChM c (sFull c) x)) else x
def sApply (c : CS) (x : SS) : CS := if kSother x = -9 then sTake c (kSjob x) (kSgoal x) else sTake (sTake c (kSjob x) (kSgoal x)) (kSother x) (aT 24 (kpl c) (kSjob x))
def stp (t : Int32) (y : CS × SS) : CS × SS := (sApply y.1 (sChoose y.1 t y.2), sChoose y.1 t y.2)
def itF (t : Int32) (y : CS × SS) : Nat → CS × SS
  | 0 => y
  | i + 1 => stp t (itF t y i)
def wkF (t : Int32) : Nat → CS × SS → Nat × (CS × SS)
  | 0, y => (0, y)
  | n + 1, y => if pChoose y.1 t y.2 then ((wkF t n (stp t y)).1 + 1, (wkF t n (stp t y)).2) else (0, (y.1, sChoose y.1 t y.2))
abbrev wkN (c : CS) (x : SS) (p : Int32) : Nat × (CS × SS) := wkF (sTarget c) p.toNatClampNeg (c, x)
def fWalk (c : CS) (x : SS) (p : Int32) : Int32 × (CS × SS) := if ¬ p < 1 ∧ p ≤ 30 then (nI (wkN c x p).1, (wkN c x p).2) else (-1, (c, x))
theorem sApply_nv (c : CS) (x : SS) : knv (sApply c x) = knv c := by unfold sApply; split <;> rfl
theorem sApply_nj (c : CS) (x : SS) : knj (sApply c x) = knj c := by unfold sApply; split <;> rfl
theorem itF_nv (t : Int32) (y : CS × SS) : ∀ i, knv (itF t y i).1 = knv y.1
  | 0 => rfl
  | i + 1 => by
    have h := itF_nv t y i
    show knv (sApply _ _) = _
    rw [sApply_nv, h]
theorem itF_nj (t : Int32) (y : CS × SS) : ∀ i, knj (itF t y i).1 = knj y.1
  | 0 => rfl
  | i + 1 => by
    have h := itF_nj t y i
    show knj (sApply _ _) = _
    rw [sApply_nj, h]
theorem steps_nI {p : Int32} (h : ¬ p < 1) (h2 : p ≤ 30) : ∃ j : Nat, j ≤ 30 ∧ p = nI j ∧ p.toNatClampNeg = j := by
  have h0 : ¬ p < 0 := fun q => h (Int32.lt_trans q (by decide))
  obtain ⟨j, hj, e⟩ := nI_of2 (n := 30) (M := 30) (by decide) h0 h2
  refine ⟨j, hj, e, ?_⟩
  rw [e, nI_clamp (by omega)]
