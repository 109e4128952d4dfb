/-! the whole object: its own cell, the clusters now (cn), before (cb), trial (ct), the history, the step, the program -/
abbrev evT (eo : Nat) (n b t hq : Nat → Nat) (a : Nat) (g : Nat → Nat) : va_W := [(eo, .inr (4, [.ref (n 0), .ref (b 0), .ref (t 0), .ref (hq 0), .ref a, .ref (g 0)]))]
def sRec (v : HW) (c : CS) (r : Int32) : HW := if r < 0 then v else sKeep v c
abbrev ar0 (y : PS) : Int32 := aT 3 (kPnums y) 0
abbrev ar1 (y : PS) : Int32 := aT 3 (kPnums y) 1
abbrev ar2 (y : PS) : Int32 := aT 3 (kPnums y) 2
/-- one order, by its letter -/
def fCall (c : CS) (x : SS) (y : PS) : Int32 × (CS × SS) :=
  if kPletter y = 102 then ((fEnd c (ar0 y)).1, ((fEnd c (ar0 y)).2, x))
  else if kPletter y = 106 then ((fNewJob c (ar0 y) (ar1 y) (ar2 y)).1, ((fNewJob c (ar0 y) (ar1 y) (ar2 y)).2, x))
  else if kPletter y = 109 then ((fMove c (ar0 y) (ar1 y)).1, ((fMove c (ar0 y) (ar1 y)).2, x))
  else if kPletter y = 112 then fWalk c x (ar0 y)
  else if kPletter y = 114 then ((fRing c (ar0 y) (ar1 y) (ar2 y)).1, ((fRing c (ar0 y) (ar1 y) (ar2 y)).2, x))
  else if kPletter y = 120 then ((fExch c (ar0 y) (ar1 y)).1, ((fExch c (ar0 y) (ar1 y)).2, x))
  else (-1, (c, x))
/-- the run: number of orders, cluster, step, program -/
abbrev RS : Type := Int32 × (CS × (SS × PS))
abbrev zo (z : RS) : Int32 := z.1
abbrev zc (z : RS) : CS := z.2.1
abbrev zx (z : RS) : SS := z.2.2.1
abbrev zy (z : RS) : PS := z.2.2.2
def rStep (z : RS) (k : Nat) : RS := if kPior (sRead (zy z) (nI k)) = 0 then (zo z, (zc z, (zx z, sRead (zy z) (nI k)))) else (zo z + 1, ((fCall (zc z) (zx z) (sRead (zy z) (nI k))).2.1, ((fCall (zc z) (zx z) (sRead (zy z) (nI k))).2.2, sRead (zy z) (nI k))))
def itR (z : RS) : Nat → RS
  | 0 => z
  | i + 1 => rStep (itR z i) i
def roF : Nat → Nat → RS → RS
  | 0, k, z => ((if pInOrd (zy z) then -1000 - nI k else zo z), (zc z, (zx z, zy z)))
  | n + 1, k, z => if pRead (zy z) (nI k) then (if kPior (sRead (zy z) (nI k)) = 0 then roF n (k + 1) (rStep z k) else (if (fCall (zc z) (zx z) (sRead (zy z) (nI k))).1 < 0 then (-1000 - kPlp (sRead (zy z) (nI k)), ((fCall (zc z) (zx z) (sRead (zy z) (nI k))).2.1, ((fCall (zc z) (zx z) (sRead (zy z) (nI k))).2.2, sRead (zy z) (nI k)))) else roF n (k + 1) (rStep z k))) else (-1000 - nI k, (zc z, (zx z, sRead (zy z) (nI k))))
abbrev z0 (c : CS) (x : SS) (y : PS) : RS := (0, (c, (x, sStartR y)))
def fOrders (c : CS) (x : SS) (y : PS) : RS := roF (kPlen y) 0 (z0 c x y)
theorem fNewJob_nv (c : CS) (a b d : Int32) : knv (fNewJob c a b d).2 = knv c := by unfold fNewJob; (repeat' split) <;> rfl
theorem fNewJob_nj (c : CS) (a b d : Int32) (h : knj c ≤ 24) : knj (fNewJob c a b d).2 ≤ 24 := by
  unfold fNewJob
  split
  · split
    · split
      · rename_i q
        have h2 : knj c < 24 := (nI_ltI (b := 24) (by omega) (by decide)).mp q
        show knj c + 1 ≤ 24
        omega
      · exact h
    · exact h
  · exact h
theorem fEnd_nv (c : CS) (a : Int32) : knv (fEnd c a).2 = knv c ∧ knj (fEnd c a).2 = knj c := by unfold fEnd; (repeat' split) <;> exact ⟨rfl, rfl⟩
theorem fMove_nv (c : CS) (a b : Int32) : knv (fMove c a b).2 = knv c ∧ knj (fMove c a b).2 = knj c := by unfold fMove; (repeat' split) <;> exact ⟨rfl, rfl⟩
theorem fExch_nv (c : CS) (a b : Int32) : knv (fExch c a b).2 = knv c ∧ knj (fExch c a b).2 = knj c := by unfold fExch; (repeat' split) <;> exact ⟨rfl, rfl⟩
theorem fRing_nv (c : CS) (a b d : Int32) : knv (fRing c a b d).2 = knv c ∧ knj (fRing c a b d).2 = knj c := by unfold fRing; (repeat' split) <;> exact ⟨rfl, rfl⟩
theorem wkF_nv (t : Int32) : ∀ (n : Nat) (z : CS × SS), knv (wkF t n z).2.1 = knv z.1 ∧ knj (wkF t n z).2.1 = knj z.1
  | 0, _ => ⟨rfl, rfl⟩
  | n + 1, z => by
    unfold wkF
    split
    · have h := wkF_nv t n (stp t z)
      exact ⟨h.1.trans (sApply_nv _ _), h.2.trans (sApply_nj _ _)⟩
    · exact ⟨rfl, rfl⟩
theorem fWalk_nv (c : CS) (x : SS) (p : Int32) : knv (fWalk c x p).2.1 = knv c ∧ knj (fWalk c x p).2.1 = knj c := by
  unfold fWalk
  split
  · exact wkF_nv _ _ _
  · exact ⟨rfl, rfl⟩
theorem fCall_nv (c : CS) (x : SS) (y : PS) : knv (fCall c x y).2.1 = knv c := by
  unfold fCall
  split
  · exact (fEnd_nv c _).1
  split
  · exact fNewJob_nv c _ _ _
  split
  · exact (fMove_nv c _ _).1
  split
  · exact (fWalk_nv c x _).1
  split
  · exact (fRing_nv c _ _ _).1
  split
  · exact (fExch_nv c _ _).1
  · rfl
theorem fCall_nj (c : CS) (x : SS) (y : PS) (h : knj c ≤ 24) : knj (fCall c x y).2.1 ≤ 24 := by
  unfold fCall
  split
  · exact Nat.le_trans (Nat.le_of_eq (fEnd_nv c _).2) h
  split
  · exact fNewJob_nj c _ _ _ h
  split
  · exact Nat.le_trans (Nat.le_of_eq (fMove_nv c _ _).2) h
  split
  · exact Nat.le_trans (Nat.le_of_eq (fWalk_nv c x _).2) h
  split
  · exact Nat.le_trans (Nat.le_of_eq (fRing_nv c _ _ _).2) h
  split
  · exact Nat.le_trans (Nat.le_of_eq (fExch_nv c _ _).2) h
  · exact h
theorem sBegin_len (y : PS) (d : Int32) : kPlen (sBegin y d) = kPlen y := by unfold sBegin; split <;> rfl
theorem sDig_len (y : PS) (d : Int32) : kPlen (sDig y d) = kPlen y := by
  unfold sDig
  split
  · exact sBegin_len y d
  · split <;> rfl
theorem sLet_len (y : PS) (s k : Int32) : kPlen (sLet y s k) = kPlen y := by unfold sLet; split <;> rfl
theorem sRd_len (y : PS) (s k : Int32) : kPlen (sRd y s k) = kPlen y := by
  unfold sRd
  split
  · rfl
  split
  · exact sLet_len y s k
  split
  · split <;> rfl
  · split
    · exact sDig_len y _
    · rfl
theorem rd0_len (y : PS) : kPlen (rd0 y) = kPlen y := by unfold rd0; split <;> rfl
theorem sRead_len (y : PS) (k : Int32) : kPlen (sRead y k) = kPlen y := (sRd_len _ _ _).trans (rd0_len y)
theorem itR_len (z : RS) : ∀ i, kPlen (zy (itR z i)) = kPlen (zy z)
  | 0 => rfl
  | i + 1 => by
    have h := itR_len z i
    show kPlen (zy (rStep _ _)) = _
    unfold rStep
    split <;> exact (sRead_len _ _).trans h
theorem itR_nv (z : RS) : ∀ i, knv (zc (itR z i)) = knv (zc z)
  | 0 => rfl
  | i + 1 => by
    have h := itR_nv z i
    show knv (zc (rStep _ _)) = _
    unfold rStep
    split
    · exact h
    · exact (fCall_nv _ _ _).trans h
theorem itR_nj (z : RS) (h0 : knj (zc z) ≤ 24) : ∀ i, knj (zc (itR z i)) ≤ 24
  | 0 => h0
  | i + 1 => by
    have h := itR_nj z h0 i
    show knj (zc (rStep _ _)) ≤ _
    unfold rStep
    split
    · exact h
    · exact fCall_nj _ _ _ h
/-- rows at a place, and outside -/
theorem aT_nI {n j : Nat} (h : j < n) (hn : n < 2 ^ 31) (f : Nat → Int32) : aT n f (nI j) = f j := by
  unfold aT
  rw [if_neg (nI_pos (by omega)), if_neg (nI_ge h hn), nI_clamp (by omega)]
theorem pT_nI {n j : Nat} (h : j < n) (hn : n < 2 ^ 31) (f : Nat → Int32) (v : Int32) : pT n f (nI j) v = upd f j v := by
  unfold pT
  rw [if_neg (nI_pos (by omega)), if_neg (nI_ge h hn), nI_clamp (by omega)]
theorem aT_out {n : Nat} {i : Int32} (h : i < 0 ∨ nI n ≤ i) (f : Nat → Int32) : aT n f i = 0 := by
  unfold aT
  split
  · rfl
  · rename_i q
    rw [if_pos (h.resolve_left q)]
theorem pT_out {n : Nat} {i : Int32} (h : i < 0 ∨ nI n ≤ i) (f : Nat → Int32) (v : Int32) : pT n f i v = f := by
  unfold pT
  split
  · rfl
  · rename_i q
    rw [if_pos (h.resolve_left q)]
theorem ix6 (i : Int32) : (i < 0 ∨ nI 6 ≤ i) ∨ ∃ j : Nat, j < 6 ∧ i = nI j := by
  rcases pk_ix i (n := 6) (by decide) with h | h | h
  · exact Or.inl (Or.inl h)
  · exact Or.inl (Or.inr h)
  · exact Or.inr h
theorem ld_back (f : Nat → Int32) (z a b : Int32) (hab : ¬ b = a) :
    (fun g : Nat → Int32 => pT 6 (pT 6 g b (aT 6 g b - z)) a (aT 6 (pT 6 g b (aT 6 g b - z)) a + z)) (pT 6 (pT 6 f a (aT 6 f a - z)) b (aT 6 (pT 6 f a (aT 6 f a - z)) b + z)) = f := by
  have h6 : 6 < 2 ^ 31 := by decide
  rcases ix6 a with ha | ⟨i, hi, rfl⟩
  · rcases ix6 b with hb | ⟨j, hj, rfl⟩
    · simp only [pT_out ha, pT_out hb]
    · simp only [pT_out ha, pT_nI hj h6, aT_nI hj h6, pk_us]
      funext k
      by_cases e : k = j
      · subst e; simp [upd]
      · simp [upd, e]
  · rcases ix6 b with hb | ⟨j, hj, rfl⟩
    · simp only [pT_out hb, pT_nI hi h6, aT_nI hi h6, pk_us]
      funext k
      by_cases e : k = i
      · subst e; simp [upd]
      · simp [upd, e]
    · have hne : j ≠ i := fun e => hab (by rw [e])
      simp only [pT_nI hi h6, aT_nI hi h6, pT_nI hj h6, aT_nI hj h6, pk_us]
      funext k
      by_cases e : k = i
      · subst e; simp [upd, hne, Ne.symm hne]
      · by_cases e2 : k = j
        · subst e2; simp [upd, hne, Ne.symm hne, e]
        · simp [upd, e, e2]
theorem sShift_back (c : CS) (z a b : Int32) (hab : ¬ b = a) : sShift (sShift c z a b) z b a = c := by
  have h := ld_back (kld c) z a b hab
  show uld c _ = c
  exact (congrArg (uld c) h).trans rfl
/-- the fewest moves: exactly so many, of jobs from f on -/
def chK (rec : CS → Nat → Int32) (c : CS) (j : Nat) (best : Int32) : Nat → Int32
  | 0 => best
  | k + 1 => if ¬ nI k = aT 24 (kpl c) (nI j) ∧ pOpen c (nI k) then (if ¬ rec (sShift c (aT 24 (ksz c) (nI j)) (aT 24 (kpl c) (nI j)) (nI k)) (j + 1) = -9 ∧ (chK rec c j best k = -9 ∨ rec (sShift c (aT 24 (ksz c) (nI j)) (aT 24 (kpl c) (nI j)) (nI k)) (j + 1) + aT 24 (kpr c) (nI j) < chK rec c j best k) then rec (sShift c (aT 24 (ksz c) (nI j)) (aT 24 (kpl c) (nI j)) (nI k)) (j + 1) + aT 24 (kpr c) (nI j) else chK rec c j best k) else chK rec c j best k
def chJ (rec : CS → Nat → Int32) (c : CS) (f : Nat) : Nat → Int32
  | 0 => -9
  | j + 1 => if j < f then -9 else (if aT 24 (kpl c) (nI j) = -9 then chJ rec c f j else chK rec c j (chJ rec c f j) (knv c))
theorem chJ_f (rec : CS → Nat → Int32) (c : CS) (f : Nat) : chJ rec c f f = -9 := by
  cases f with
  | zero => rfl
  | succ f => unfold chJ; rw [if_pos (Nat.lt_succ_self f)]
def ch (t : Int32) : Nat → CS → Nat → Int32
  | 0, c, _ => if sAbove c t ≤ 0 then 0 else -9
  | d + 1, c, f => if sAbove c t ≤ nI (d + 1) then chJ (ch t d) c f (knj c) else -9
def sFewest (c : CS) (p : Int32) : Int32 := if ¬ p < 0 ∧ p ≤ 1 then (if ¬ ch (sTarget c) 0 c 0 = -9 then (if p = 0 then 0 else ch (sTarget c) 0 c 0) else (if ¬ ch (sTarget c) 1 c 0 = -9 then (if p = 0 then 1 else ch (sTarget c) 1 c 0) else (if ¬ ch (sTarget c) 2 c 0 = -9 then (if p = 0 then 2 else ch (sTarget c) 2 c 0) else -9))) else -1
def sServer (c : CS) (p w : Int32) : Int32 := if pHasS c p then (if w = 0 then (if pOpen c p then 1 else 0) else if w = 1 then aT 6 (kld c) p else if w = 2 then nI (bcN (sOn c p)) else if w = 3 then (if ksm c ≤ 0 then 0 else aT 6 (kld c) p * 1000 / ksm c) else if w = 4 then sOn c p else -1) else -1
def sJob (c : CS) (p w : Int32) : Int32 := if pHasJ c p then (if w = 0 then aT 24 (ksz c) p else if w = 1 then aT 24 (kpr c) p else if w = 2 then aT 24 (kpl c) p else if w = 3 then aT 24 (kmv c) p else -1) else -1
def sCount (c : CS) (v : HW) (y : PS) (w : Int32) : Int32 := if w = 0 then nI (knv c) else if w = 1 then knO c else if w = 2 then nI (knj c) else if w = 3 then finF c (knj c) else if w = 4 then ksm c else if w = 5 then sGreatest c else if w = 6 then aT 6 (kld c) (sEmpty c) else if w = 7 then sBound c else if w = 8 then sTarget c else if w = 9 then (if pEven c then 1 else 0) else if w = 10 then kbu c else if w = 11 then kfa c else if w = 12 then kmo c else if w = 13 then nI (kde v) else if w = 14 then nI (kPlen y) else -1
def sStep (c : CS) (x : SS) (w : Int32) : Int32 := if ¬ w < 0 ∧ w ≤ 3 then (if pChoose c (sTarget c) x then (if w = 0 then kSjob (sChoose c (sTarget c) x) else if w = 1 then kSgoal (sChoose c (sTarget c) x) else if w = 2 then kSother (sChoose c (sTarget c) x) else kSprice (sChoose c (sTarget c) x)) else -9) else -1
def sPlan (c : CS) (x : SS) (w : Int32) : Int32 := if ¬ w < 0 ∧ w ≤ 4 then (if w = 0 then (fWalk c x 30).1 else if w = 1 then kmo (fWalk c x 30).2.1 - kmo c else if w = 2 then kbu c - kbu (fWalk c x 30).2.1 else if w = 3 then sGreatest (fWalk c x 30).2.1 else (if pEven (fWalk c x 30).2.1 then 1 else 0)) else -1
def sWithout (c : CS) (p : Int32) : Int32 := if pHasS c p then (if pOpen c p ∧ ¬ knO c ≤ 1 then sGreatest (sClose c p) else -2) else -1
theorem clF_keep (c : CS) (s : Int32) (i : Nat) : knv (clF c s i) = knv c ∧ knj (clF c s i) = knj c := ⟨clF_nv c s i, clF_nj c s i⟩
section SCALL
variable {p : Program} {l : Launch} {e : Env} {R : Room} {s : State} {m : MethodId} {args : Array Value} {below : List Frame} {meth : Method} {c : Code} {H : Heap} {locs : List Loc} {cells slots : Nat} {Q : State → Prop}
variable {pc nL mc ms n index : Nat} {ls : Array Slot} {rest st0 As : List Value} {a : Array Value} {A0 A1 : Nat → Prop} {H0 : Heap} {y : MethodName} {bytes cc : ByteArray} {maxL : Nat} {ret : Option FieldType} {wy Ts : List Cond} {rm : Room} {own C host : String} {b : Addr} {G : va_G} {cI cQ : ClassId} {ws wc wr : va_W}
/-- a static method of the own class that writes and answers a number -/
theorem mcS {S0 : Type} {post : Int32 → S0 → Prop} {w1 : S0 → va_W} (S : CallFix p m c cc nL s args Ts own) (hM : Met l y wy rm (mPc G cI cQ As wc H.size) (va_Qi post (mB G (va_A wc H.size) w1) (va_A wc H.size)) mc ms (va_A wc H.size)) (cw : CallB R s args own index y bytes maxL ret wy rm mc ms n ∧ (Cond.static y).before args s = true)
    (hK : SF G cI cQ s) (hP : va_P G vwCl ws H) (hD : va_D A0 ws) (hS : va_S A0 H0 H locs) (hA : ∀ q, H0.size ≤ q → A0 q) (isC isR : List Nat) (hC : isC.map (fun i => ws[i]?) = wc.map some) (hR : isR.map (fun i => ws[i]?) = wr.map some) (hnC : va_nd isC = true) (hnR : va_nd isR = true) (hdis : ∀ i ∈ isR, i ∉ isC)
    (hn : As.length = n) (hsize : ls.size = nL) (hst : st0 = As.reverse ++ rest) (hW : (rest.map fun v => v.category).sum ≤ 8) (hdg : decode cc pc = .ok (.invokestatic index, 3)) (hf : cells + mc ≤ R.cells ∧ slots + ms ≤ R.slots)
    (kk : ∀ (r : Int32) (u : S0) (H1 : Heap) (locs1 : List Loc), post r u → va_P G vwCl (wr ++ w1 u) H1 → va_D A0 (wr ++ w1 u) → va_S A0 H0 H1 locs1 → W p l e R s m args below meth c H1 locs1 (cells + mc) (slots + ms) Q (F0 m (pc + 3) ls (.int r :: rest))) : W p l e R s m args below meth c H locs cells slots Q (F0 m pc ls st0) := by
  have hC2 : isC.filterMap (fun i => ws[i]?) = wc := sub_of_map hC
  have hPc := hP.sub isC hC2
  have hDc := hD.sub isC hnC hC
  have hFc := va_free (wc := wc) hD hS hA isC hC
  exact va_calli (va_runS (g := F0 m pc ls st0) S hM cw ⟨mPc.blind, fun U hU hW => ⟨rfl, by rw [hU], by rw [hU]; exact hPc, SF.warm hW hK, hDc.weaken (fun _ _ _ _ => trivial)⟩⟩ rfl hn hsize hst (by show 2 * 0 + _ ≤ 8; omega) hdg hf) hS (fun q _ h => hFc q h) hFc
    (fun r u t H1 locs1 ht hvm hw hB hz1 hk1 hS1 => by
      obtain ⟨hP1, hD1⟩ := hB
      rw [ht] at hP1
      obtain ⟨hP2, hD2⟩ := va_join (wr := wr) (w1 := w1 u) hP hD isC isR hC hR hnR hdis hk1 hFc hP1 hD1
      exact kk r u H1 locs1 hw hP2 hD2 hS1)
end SCALL
