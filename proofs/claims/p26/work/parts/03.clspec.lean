/-! the state of a Cluster in our words: sizes, prices, places, moved, loads, opened, servers, openServers, jobs, sum, budget, factor, moves -/
abbrev CS : Type := (Nat → Int32) × (Nat → Int32) × (Nat → Int32) × (Nat → Int32) × (Nat → Int32) × (Nat → Int32) × Nat × Int32 × Nat × Int32 × Int32 × Int32 × Int32
abbrev ksz (c : CS) : Nat → Int32 := c.1
abbrev kpr (c : CS) : Nat → Int32 := c.2.1
abbrev kpl (c : CS) : Nat → Int32 := c.2.2.1
abbrev kmv (c : CS) : Nat → Int32 := c.2.2.2.1
abbrev kld (c : CS) : Nat → Int32 := c.2.2.2.2.1
abbrev kop (c : CS) : Nat → Int32 := c.2.2.2.2.2.1
abbrev knv (c : CS) : Nat := c.2.2.2.2.2.2.1
abbrev knO (c : CS) : Int32 := c.2.2.2.2.2.2.2.1
abbrev knj (c : CS) : Nat := c.2.2.2.2.2.2.2.2.1
abbrev ksm (c : CS) : Int32 := c.2.2.2.2.2.2.2.2.2.1
abbrev kbu (c : CS) : Int32 := c.2.2.2.2.2.2.2.2.2.2.1
abbrev kfa (c : CS) : Int32 := c.2.2.2.2.2.2.2.2.2.2.2.1
abbrev kmo (c : CS) : Int32 := c.2.2.2.2.2.2.2.2.2.2.2.2
abbrev mkC (sz pr pl mv ld op : Nat → Int32) (nv : Nat) (nO : Int32) (nj : Nat) (sm bu fa mo : Int32) : CS := (sz, pr, pl, mv, ld, op, nv, nO, nj, sm, bu, fa, mo)
abbrev usz (c : CS) (x : Nat → Int32) : CS := mkC x (kpr c) (kpl c) (kmv c) (kld c) (kop c) (knv c) (knO c) (knj c) (ksm c) (kbu c) (kfa c) (kmo c)
abbrev upr (c : CS) (x : Nat → Int32) : CS := mkC (ksz c) x (kpl c) (kmv c) (kld c) (kop c) (knv c) (knO c) (knj c) (ksm c) (kbu c) (kfa c) (kmo c)
abbrev upl (c : CS) (x : Nat → Int32) : CS := mkC (ksz c) (kpr c) x (kmv c) (kld c) (kop c) (knv c) (knO c) (knj c) (ksm c) (kbu c) (kfa c) (kmo c)
abbrev umv (c : CS) (x : Nat → Int32) : CS := mkC (ksz c) (kpr c) (kpl c) x (kld c) (kop c) (knv c) (knO c) (knj c) (ksm c) (kbu c) (kfa c) (kmo c)
abbrev uld (c : CS) (x : Nat → Int32) : CS := mkC (ksz c) (kpr c) (kpl c) (kmv c) x (kop c) (knv c) (knO c) (knj c) (ksm c) (kbu c) (kfa c) (kmo c)
abbrev uop (c : CS) (x : Nat → Int32) : CS := mkC (ksz c) (kpr c) (kpl c) (kmv c) (kld c) x (knv c) (knO c) (knj c) (ksm c) (kbu c) (kfa c) (kmo c)
abbrev unv (c : CS) (x : Nat) : CS := mkC (ksz c) (kpr c) (kpl c) (kmv c) (kld c) (kop c) x (knO c) (knj c) (ksm c) (kbu c) (kfa c) (kmo c)
abbrev unO (c : CS) (x : Int32) : CS := mkC (ksz c) (kpr c) (kpl c) (kmv c) (kld c) (kop c) (knv c) x (knj c) (ksm c) (kbu c) (kfa c) (kmo c)
abbrev unj (c : CS) (x : Nat) : CS := mkC (ksz c) (kpr c) (kpl c) (kmv c) (kld c) (kop c) (knv c) (knO c) x (ksm c) (kbu c) (kfa c) (kmo c)
abbrev usm (c : CS) (x : Int32) : CS := mkC (ksz c) (kpr c) (kpl c) (kmv c) (kld c) (kop c) (knv c) (knO c) (knj c) x (kbu c) (kfa c) (kmo c)
abbrev ubu (c : CS) (x : Int32) : CS := mkC (ksz c) (kpr c) (kpl c) (kmv c) (kld c) (kop c) (knv c) (knO c) (knj c) (ksm c) x (kfa c) (kmo c)
abbrev ufa (c : CS) (x : Int32) : CS := mkC (ksz c) (kpr c) (kpl c) (kmv c) (kld c) (kop c) (knv c) (knO c) (knj c) (ksm c) (kbu c) x (kmo c)
abbrev umo (c : CS) (x : Int32) : CS := mkC (ksz c) (kpr c) (kpl c) (kmv c) (kld c) (kop c) (knv c) (knO c) (knj c) (ksm c) (kbu c) (kfa c) x
/-- its seven cells -/
abbrev clT (cI : ClassId) (h : Nat → Nat) (c : CS) : va_W := [(h 0, .inr (0, [.ref (h 1), .ref (h 2), .ref (h 3), .ref (h 4), .ref (h 5), .ref (h 6), .int (nI (knv c)), .int (knO c), .int (nI (knj c)), .int (ksm c), .int (kbu c), .int (kfa c), .int (kmo c)])), (h 1, .inl (cI, 24, .inl (ksz c))), (h 2, .inl (cI, 24, .inl (kpr c))), (h 3, .inl (cI, 24, .inl (kpl c))), (h 4, .inl (cI, 24, .inl (kmv c))), (h 5, .inl (cI, 6, .inl (kld c))), (h 6, .inl (cI, 6, .inl (kop c)))]
/-- at(row, index) and put(row, index, value) -/
def aT (n : Nat) (f : Nat → Int32) (i : Int32) : Int32 := if i < 0 then 0 else if nI n ≤ i then 0 else f i.toNatClampNeg
def pT (n : Nat) (f : Nat → Int32) (i v : Int32) : Nat → Int32 := if i < 0 then f else if nI n ≤ i then f else upd f i.toNatClampNeg v
abbrev pHasS (c : CS) (v : Int32) : Prop := ¬ v < 0 ∧ ¬ nI (knv c) ≤ v
abbrev pHasJ (c : CS) (v : Int32) : Prop := ¬ v < 0 ∧ ¬ nI (knj c) ≤ v
abbrev pOpen (c : CS) (k : Int32) : Prop := aT 6 (kop c) k = 1
abbrev pFin (c : CS) (j : Int32) : Prop := aT 24 (kpl c) j = -9
abbrev pApart (c : CS) (i j : Int32) : Prop := ¬ pFin c i ∧ ¬ pFin c j ∧ ¬ aT 24 (kpl c) i = aT 24 (kpl c) j
abbrev pBefore (c : CS) (i j : Int32) : Prop := if aT 24 (ksz c) i = aT 24 (ksz c) j then (if aT 24 (kpr c) i = aT 24 (kpr c) j then i < j else aT 24 (kpr c) i < aT 24 (kpr c) j) else aT 24 (ksz c) j < aT 24 (ksz c) i
def sShift (c : CS) (size a b : Int32) : CS := uld c (pT 6 (pT 6 (kld c) a (aT 6 (kld c) a - size)) b (aT 6 (pT 6 (kld c) a (aT 6 (kld c) a - size)) b + size))
def sTake (c : CS) (j s : Int32) : CS := mkC (ksz c) (kpr c) (pT 24 (kpl c) j s) (pT 24 (kmv c) j (aT 24 (kmv c) j + 1)) (kld (sShift c (aT 24 (ksz c) j) (aT 24 (kpl c) j) s)) (kop c) (knv c) (knO c) (knj c) (ksm c) (kbu c - aT 24 (kpr c) j) (kfa c) (kmo c + 1)
def fullF (c : CS) : Nat → Int32
  | 0 => -9
  | k + 1 => if aT 6 (kop c) (nI k) = 1 ∧ (fullF c k = -9 ∨ aT 6 (kld c) (fullF c k) < aT 6 (kld c) (nI k)) then nI k else fullF c k
def sFull (c : CS) : Int32 := fullF c (knv c)
def sGreatest (c : CS) : Int32 := aT 6 (kld c) (sFull c)
def emptyF (c : CS) : Nat → Int32
  | 0 => -9
  | k + 1 => if aT 6 (kop c) (nI k) = 1 ∧ (emptyF c k = -9 ∨ aT 6 (kld c) (nI k) < aT 6 (kld c) (emptyF c k)) then nI k else emptyF c k
def sEmpty (c : CS) : Int32 := emptyF c (knv c)
def finF (c : CS) : Nat → Int32
  | 0 => 0
  | j + 1 => if pFin c (nI j) then finF c j + 1 else finF c j
def onF (c : CS) (s : Int32) : Nat → Int32
  | 0 => 0
  | j + 1 => if aT 24 (kpl c) (nI j) = s then onF c s j ||| (1 <<< (nI j &&& 31)) else onF c s j
def sOn (c : CS) (s : Int32) : Int32 := onF c s (knj c)
def prF (c : CS) (s : Int32) : Nat → Int32
  | 0 => 0
  | j + 1 => if aT 24 (kpl c) (nI j) = s then prF c s j + aT 24 (kpr c) (nI j) else prF c s j
def sPrices (c : CS) (s : Int32) : Int32 := prF c s (knj c)
def bfF (c : CS) (j : Int32) : Nat → Int32
  | 0 => 0
  | o + 1 => if aT 24 (kpl c) (nI o) = aT 24 (kpl c) j ∧ pBefore c (nI o) j then bfF c j o + 1 else bfF c j o
def sBf (c : CS) (j : Int32) : Int32 := bfF c j (knj c)
def lvF (c : CS) (s x : Int32) : Nat → Nat → Int32
  | 0, _ => -9
  | n + 1, i => if aT 24 (kpl c) (nI i) = s ∧ sBf c (nI i) = x then nI i else lvF c s x n (i + 1)
def sLeaving (c : CS) (s x : Int32) : Int32 := lvF c s x (knj c) 0
def bndF (c : CS) : Nat → Int32
  | 0 => 0
  | j + 1 => if aT 24 (kpl c) (nI j) = -9 then bndF c j else (if bndF c j < aT 24 (ksz c) (nI j) then aT 24 (ksz c) (nI j) else bndF c j)
def sAvg (c : CS) : Int32 := if knO c ≤ 0 then 0 else (ksm c + knO c - 1) / knO c
def sBound (c : CS) : Int32 := if sAvg c < bndF c (knj c) then bndF c (knj c) else sAvg c
def sTarget (c : CS) : Int32 := sBound c * kfa c / 100
abbrev pEven (c : CS) : Prop := ¬ sTarget c < sGreatest c
def abF (c : CS) (t : Int32) : Nat → Int32
  | 0 => 0
  | k + 1 => if aT 6 (kld c) (nI k) ≤ t then abF c t k else abF c t k + 1
def sAbove (c : CS) (t : Int32) : Int32 := abF c t (knv c)
/-- the actions: answer and state behind -/
def fNewServer (c : CS) : Int32 × CS := if nI (knv c) < 6 then (nI (knv c + 1) - 1, unO (unv (uop c (pT 6 (kop c) (nI (knv c)) 1)) (knv c + 1)) (knO c + 1)) else (-3, c)
def sNewJob (c : CS) (size price s : Int32) : CS := mkC (pT 24 (ksz c) (nI (knj c)) size) (pT 24 (kpr c) (nI (knj c)) price) (pT 24 (kpl c) (nI (knj c)) s) (pT 24 (kmv c) (nI (knj c)) 0) (pT 6 (kld c) s (aT 6 (kld c) s + size)) (kop c) (knv c) (knO c) (knj c + 1) (ksm c + size) (kbu c) (kfa c) (kmo c)
def fNewJob (c : CS) (size price s : Int32) : Int32 × CS := if (¬ size < 1 ∧ ¬ 1000 < size) ∧ (¬ price < 0 ∧ ¬ 100 < price) ∧ pHasS c s then (if pOpen c s then (if nI (knj c) < 24 then (nI (knj c + 1) - 1, sNewJob c size price s) else (-3, c)) else (-2, c)) else (-1, c)
def sEnd (c : CS) (j : Int32) : CS := usm (uld (upl c (pT 24 (kpl c) j (-9))) (pT 6 (kld c) (aT 24 (kpl c) j) (aT 6 (kld c) (aT 24 (kpl c) j) - aT 24 (ksz c) j))) (ksm c - aT 24 (ksz c) j)
def fEnd (c : CS) (j : Int32) : Int32 × CS := if pHasJ c j then (if pFin c j then (-2, c) else (aT 6 (kld (sEnd c j)) (aT 24 (kpl c) j), sEnd c j)) else (-1, c)
def fBudget (c : CS) (w : Int32) : Int32 × CS := if ¬ w < 0 ∧ w ≤ 10000 then (kbu c, ubu c w) else (-1, c)
def fFactor (c : CS) (w : Int32) : Int32 × CS := if ¬ w < 100 ∧ w ≤ 400 then (sTarget (ufa c w), ufa c w) else (-1, c)
def fMove (c : CS) (j s : Int32) : Int32 × CS := if pHasJ c j ∧ pHasS c s then (if pFin c j ∨ aT 24 (kpl c) j = s ∨ ¬ pOpen c s then (-2, c) else (if aT 24 (kpr c) j ≤ kbu c then (sGreatest (sTake c j s), sTake c j s) else (-2, c))) else (-1, c)
def sExch (c : CS) (j o : Int32) : CS := sTake (sTake c j (aT 24 (kpl c) o)) o (aT 24 (kpl c) j)
def fExch (c : CS) (j o : Int32) : Int32 × CS := if pHasJ c j ∧ pHasJ c o ∧ ¬ j = o then (if pApart c j o ∧ aT 24 (kpr c) j + aT 24 (kpr c) o ≤ kbu c then (sGreatest (sExch c j o), sExch c j o) else (-2, c)) else (-1, c)
def sRing (c : CS) (i j o : Int32) : CS := sTake (sTake (sTake c i (aT 24 (kpl c) j)) j (aT 24 (kpl (sTake c i (aT 24 (kpl c) j))) o)) o (aT 24 (kpl c) i)
def fRing (c : CS) (i j o : Int32) : Int32 × CS := if (pHasJ c i ∧ pHasJ c j ∧ pHasJ c o) ∧ (¬ i = j ∧ ¬ j = o ∧ ¬ o = i) then (if (pApart c i j ∧ pApart c j o ∧ pApart c o i) ∧ aT 24 (kpr c) i + aT 24 (kpr c) j + aT 24 (kpr c) o ≤ kbu c then (sGreatest (sRing c i j o), sRing c i j o) else (-2, c)) else (-1, c)
/-- bitCount: its last row is a number below 64 -/
def bc1 (x : Int32) : Int32 := x - ((x.toUInt32 >>> ((1 : Int32).toUInt32 &&& Int32.toUInt32 31)).toInt32 &&& 1431655765)
def bc2 (y : Int32) : Int32 := (y &&& 858993459) + ((y.toUInt32 >>> ((2 : Int32).toUInt32 &&& Int32.toUInt32 31)).toInt32 &&& 858993459)
def bc3 (z : Int32) : Int32 := (z + (z.toUInt32 >>> ((4 : Int32).toUInt32 &&& Int32.toUInt32 31)).toInt32) &&& 252645135
def bc4 (z : Int32) : Int32 := z + (z.toUInt32 >>> ((8 : Int32).toUInt32 &&& Int32.toUInt32 31)).toInt32
def bc5 (z : Int32) : Int32 := z + (z.toUInt32 >>> ((16 : Int32).toUInt32 &&& Int32.toUInt32 31)).toInt32
def bcN (x : Int32) : Nat := (bc5 (bc4 (bc3 (bc2 (bc1 x))))).toBitVec.toNat % 64
def sShut (c : CS) (s : Int32) : CS := unO (uop c (pT 6 (kop c) s 0)) (knO c - 1)
def clF (c : CS) (s : Int32) : Nat → CS
  | 0 => c
  | i + 1 => sTake (clF c s i) (sLeaving (clF c s i) s 0) (sEmpty (clF c s i))
def sClose (c : CS) (s : Int32) : CS := clF (sShut c s) s (bcN (sOn (sShut c s) s))
def rClose (c : CS) (s : Int32) : Int32 := nI (bcN (sOn (sShut c s) s))
def fClose (c : CS) (s : Int32) : Int32 × CS := if pHasS c s then (if pOpen c s ∧ ¬ knO c ≤ 1 ∧ sPrices c s ≤ kbu c then (rClose c s, sClose c s) else (-2, c)) else (-1, c)
def fOpen (c : CS) (s : Int32) : Int32 × CS := if pHasS c s then (if pOpen c s then (-2, c) else (knO c + 1, unO (uop c (pT 6 (kop c) s 1)) (knO c + 1))) else (-1, c)
theorem clF_nv (c : CS) (s : Int32) : ∀ i, knv (clF c s i) = knv c
  | 0 => rfl
  | i + 1 => by
    have h := clF_nv c s i
    exact h
theorem clF_nj (c : CS) (s : Int32) : ∀ i, knj (clF c s i) = knj c
  | 0 => rfl
  | i + 1 => by
    have h := clF_nj c s i
    exact h
theorem in_of {x : Int32} {n : Nat} (h1 : ¬ x < 0) (h2 : ¬ nI n ≤ x) (hn : n < 2 ^ 31) : vp_in x n := by
  rcases pk_ix x hn with h | h | ⟨j, hj, rfl⟩
  · exact absurd h h1
  · exact absurd h h2
  · exact vp_in_nI hj hn
section ROWS
variable {p : Program} {l : Launch} {e : Env} {R : Room} {s : State} {m : MethodId} {args : Array Value} {below : List Frame} {meth : Method} {c : Code} {H : Heap} {locs : List Loc} {cells slots : Nat} {Q : State → Prop}
variable {pc : Nat} {ls : Array Slot} {rest : List Value} {A0 : Nat → Prop} {H0 : Heap} {cc : ByteArray} {G : va_G} {cI cQ : ClassId} {ws : va_W} {a : Nat}
/-- a place of an int row, known by its number -/
theorem iald_n (hx : p.tables.exec = Jvm.exec) (hb : c.code = cc) (hK : SF G cI cQ s) (hP : va_P G vwCl ws H) (q0 : Nat) {n : Nat} {f : Nat → Int32} (ha : ws[q0]? = some (a, .inl (cI, n, .inl f))) (k : Nat) {i : Int32} (hi : i = nI k) (hk : k < n) (hn : n < 2 ^ 31) (hdg : decode cc pc = .ok (.iaload, 1))
    (kk : W p l e R s m args below meth c H locs cells slots Q (F0 m (pc + 1) ls (.int (f k) :: rest))) : W p l e R s m args below meth c H locs cells slots Q (F0 m pc ls (.int i :: .ref a :: rest)) := by
  subst hi
  refine va_iald hx hb hK.1 hP q0 0 ha rfl (vp_in_nI hk hn) hdg ?_
  rw [nI_clamp (by omega)]
  exact kk
theorem iast_n (hx : p.tables.exec = Jvm.exec) (hb : c.code = cc) (hK : SF G cI cQ s) (hP : va_P G vwCl ws H) (hD : va_D A0 ws) (hS : va_S A0 H0 H locs) (q0 : Nat) {n : Nat} {f : Nat → Int32} (ha : ws[q0]? = some (a, .inl (cI, n, .inl f))) (k : Nat) {i x : Int32} (hi : i = nI k) (hk : k < n) (hn : n < 2 ^ 31) (hdg : decode cc pc = .ok (.iastore, 1))
    (kk : ∀ (H1 : Heap) (locs1 : List Loc), va_P G vwCl (ws.set q0 (a, .inl (cI, n, .inl (upd f k x)))) H1 → va_D A0 (ws.set q0 (a, .inl (cI, n, .inl (upd f k x)))) → va_S A0 H0 H1 locs1 → W p l e R s m args below meth c H1 locs1 cells slots Q (F0 m (pc + 1) ls rest)) : W p l e R s m args below meth c H locs cells slots Q (F0 m pc ls (.int x :: .int i :: .ref a :: rest)) := by
  subst hi
  refine va_iast hx hb hK.1 hP hD hS q0 0 ha rfl (vp_in_nI hk hn) hdg ?_
  rw [nI_clamp (by omega)]
  exact kk
theorem lv_cvt {x y : Int32} {g : List Value} (h : x = y) (k : W p l e R s m args below meth c H locs cells slots Q (F0 m pc ls (.int y :: g))) : W p l e R s m args below meth c H locs cells slots Q (F0 m pc ls (.int x :: g)) := h ▸ k
theorem sw_def (hx : p.tables.exec = Jvm.exec) (hb : c.code = cc) {dflt lo hi : Int} {offs : Array Int} {len : Nat} {x : Int32} {tgt : Nat} (hdg : decode cc pc = .ok (.tableswitch dflt lo hi offs, len)) (h : (x.toInt < lo ∨ hi < x.toInt) ∨ (¬ x.toInt < lo ∧ ¬ hi < x.toInt ∧ offs[(x.toInt - lo).toNat]? = some dflt)) (ht : (pc : Int) + dflt = (tgt : Int))
    (k : W p l e R s m args below meth c H locs cells slots Q (F0 m tgt ls rest)) : W p l e R s m args below meth c H locs cells slots Q (F0 m pc ls (.int x :: rest)) := by
  rcases h with h | ⟨h1, h2, h3⟩
  · exact lv_tableOut hx hb hdg h ht k
  · exact lv_tableIn hx hb hdg h1 h2 h3 ht k
end ROWS
