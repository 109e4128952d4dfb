/-! the state of a Program: signs, length, letter, letterPlace, isOrderRead, numbers, begun, digits -/
abbrev PS : Type := (Nat → Int32) × Nat × Int32 × Int32 × Int32 × (Nat → Int32) × Int32 × Int32
abbrev kPsigns (y : PS) : Nat → Int32 := y.1
abbrev kPlen (y : PS) : Nat := y.2.1
abbrev kPletter (y : PS) : Int32 := y.2.2.1
abbrev kPlp (y : PS) : Int32 := y.2.2.2.1
abbrev kPior (y : PS) : Int32 := y.2.2.2.2.1
abbrev kPnums (y : PS) : Nat → Int32 := y.2.2.2.2.2.1
abbrev kPbegun (y : PS) : Int32 := y.2.2.2.2.2.2.1
abbrev kPdigits (y : PS) : Int32 := y.2.2.2.2.2.2.2
abbrev uPsigns (y : PS) (v : Nat → Int32) : PS := (v, kPlen y, kPletter y, kPlp y, kPior y, kPnums y, kPbegun y, kPdigits y)
abbrev uPlen (y : PS) (v : Nat) : PS := (kPsigns y, v, kPletter y, kPlp y, kPior y, kPnums y, kPbegun y, kPdigits y)
abbrev uPletter (y : PS) (v : Int32) : PS := (kPsigns y, kPlen y, v, kPlp y, kPior y, kPnums y, kPbegun y, kPdigits y)
abbrev uPlp (y : PS) (v : Int32) : PS := (kPsigns y, kPlen y, kPletter y, v, kPior y, kPnums y, kPbegun y, kPdigits y)
abbrev uPior (y : PS) (v : Int32) : PS := (kPsigns y, kPlen y, kPletter y, kPlp y, v, kPnums y, kPbegun y, kPdigits y)
abbrev uPnums (y : PS) (v : Nat → Int32) : PS := (kPsigns y, kPlen y, kPletter y, kPlp y, kPior y, v, kPbegun y, kPdigits y)
abbrev uPbegun (y : PS) (v : Int32) : PS := (kPsigns y, kPlen y, kPletter y, kPlp y, kPior y, kPnums y, v, kPdigits y)
abbrev uPdigits (y : PS) (v : Int32) : PS := (kPsigns y, kPlen y, kPletter y, kPlp y, kPior y, kPnums y, kPbegun y, v)
abbrev pgT (cI : ClassId) (g : Nat → Nat) (y : PS) : va_W := [(g 0, .inr (2, [.ref (g 1), .int (nI (kPlen y)), .int (kPletter y), .int (kPlp y), .int (kPior y), .ref (g 2), .int (kPbegun y), .int (kPdigits y)])), (g 1, .inl (cI, 100, .inl (kPsigns y))), (g 2, .inl (cI, 3, .inl (kPnums y)))]
def numOf (s : Int32) : Int32 := if s = 102 then 1 else if s = 106 then 3 else if s = 109 then 2 else if s = 112 then 1 else if s = 114 then 3 else if s = 120 then 2 else 0
def fAdd (y : PS) (s : Int32) : Int32 × PS := if ¬ s < 1 ∧ s ≤ 255 then (if nI (kPlen y) < 100 then (nI (kPlen y + 1), uPlen (uPsigns y (pT 100 (kPsigns y) (nI (kPlen y)) s)) (kPlen y + 1)) else (-3, y)) else (-1, y)
def sStartR (y : PS) : PS := uPior (uPletter y 0) 0
abbrev pInOrd (y : PS) : Prop := ¬ kPletter y = 0 ∧ kPior y = 0
abbrev pBegin (y : PS) : Prop := kPbegun y < numOf (kPletter y)
def sBegin (y : PS) (d : Int32) : PS := if pBegin y then uPdigits (uPbegun (uPnums y (pT 3 (kPnums y) (kPbegun y) d)) (kPbegun y + 1)) 1 else y
abbrev pDig (y : PS) : Prop := if kPdigits y = 0 then pBegin y else (¬ 4 ≤ kPdigits y ∧ ¬ aT 3 (kPnums y) (kPbegun y - 1) = 0)
def sDig (y : PS) (d : Int32) : PS := if kPdigits y = 0 then sBegin y d else (if ¬ 4 ≤ kPdigits y ∧ ¬ aT 3 (kPnums y) (kPbegun y - 1) = 0 then uPdigits (uPnums y (pT 3 (kPnums y) (kPbegun y - 1) (aT 3 (kPnums y) (kPbegun y - 1) * 10 + d))) (kPdigits y + 1) else y)
abbrev pLet (s : Int32) : Prop := ¬ numOf s = 0
def sLet (y : PS) (s place : Int32) : PS := if pLet s then uPdigits (uPbegun (uPlp (uPletter y s) place) 0) 0 else y
def rd0 (y : PS) : PS := if kPior y = 0 then y else sStartR y
/-- one sign is read from a state that is not behind an order -/
abbrev pRd (y : PS) (s : Int32) : Prop := if s = 32 then True else (if kPletter y = 0 then pLet s else (if s = 59 then kPbegun y = numOf (kPletter y) else (¬ s < 48 ∧ ¬ 57 < s ∧ pDig y)))
def sRd (y : PS) (s place : Int32) : PS := if s = 32 then uPdigits y 0 else (if kPletter y = 0 then sLet y s place else (if s = 59 then (if kPbegun y = numOf (kPletter y) then uPior y 1 else uPior y 0) else (if ¬ s < 48 ∧ ¬ 57 < s then sDig y (s - 48) else y)))
abbrev pRead (y : PS) (k : Int32) : Prop := pRd (rd0 y) (aT 100 (kPsigns y) k)
def sRead (y : PS) (k : Int32) : PS := sRd (rd0 y) (aT 100 (kPsigns y) k) k
theorem sw_tab {x : Int32} {lo hi dflt : Int} {offs : Array Int} (N : Nat) (h1 : hi = lo + N - 1) (h2 : -2147483648 ≤ lo) (h3 : hi < 2147483648) (h : ∀ k : Nat, k < N → x = Int32.ofInt (lo + k) → offs[k]? = some dflt) : (x.toInt < lo ∨ hi < x.toInt) ∨ (¬ x.toInt < lo ∧ ¬ hi < x.toInt ∧ offs[(x.toInt - lo).toNat]? = some dflt) := by
  rcases Int.lt_or_le x.toInt lo with q | q
  · exact Or.inl (Or.inl q)
  rcases Int.lt_or_le hi x.toInt with r | r
  · exact Or.inl (Or.inr r)
  refine Or.inr ⟨by omega, by omega, ?_⟩
  refine h _ (by omega) ?_
  have e : lo + ((x.toInt - lo).toNat : Int) = x.toInt := by omega
  rw [e, Int32.ofInt_toInt]
