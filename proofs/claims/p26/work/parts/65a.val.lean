/-! ===== what the calls answer ===== -/
section VA
variable {c : CS} {s : Nat} {v : HW} {y : PS}
theorem hasJ (h : CX s c) {j : Nat} (hj : j < knj c) : pHasJ c (nI j) := ⟨nI_pos (by have := ci_nj h; omega), nI_ge hj (by have := ci_nj h; omega)⟩
theorem hasS (h : CX s c) {k : Nat} (hk : k < knv c) : pHasS c (nI k) := ⟨nI_pos (by have := ci_nv h; omega), nI_ge hk (by have := ci_nv h; omega)⟩
theorem hasJn (c : CS) : ¬ pHasJ c (nI (knj c)) := fun q => q.2 (Int32.le_refl _)
theorem hasSn (c : CS) : ¬ pHasS c (nI (knv c)) := fun q => q.2 (Int32.le_refl _)
theorem vc0 : sCount c v y 0 = nI (knv c) := rfl
theorem vc1 (h : CX s c) : sCount c v y 1 = nI (opN c) := h.2.2.2.2.1.1
theorem vc2 : sCount c v y 2 = nI (knj c) := rfl
theorem vc3 (h : CX s c) : sCount c v y 3 = nI (su (mnN c 9) (knj c)) := fin_up h _ (Nat.le_refl _)
theorem vc4 (h : CX s c) : sCount c v y 4 = nI (allN c) := h.2.2.2.2.2.1
theorem vc5 (h : CI c) : sCount c v y 5 = nI (gtN c) := great_eq h
theorem vc7 (h : CX s c) : sCount c v y 7 = nI (bdN c) := bound_eq h
theorem vc8 (h : CX s c) : sCount c v y 8 = nI (tgN c) := target_eq h
theorem vc9t (h : CI c) (e : gtN c ≤ tgN c) : sCount c v y 9 = 1 := if_pos ((even_iff h).mpr e)
theorem vc9f (h : CI c) (e : ¬ gtN c ≤ tgN c) : sCount c v y 9 = 0 := if_neg (fun q => e ((even_iff h).mp q))
theorem vc10 : sCount c v y 10 = kbu c := rfl
theorem vc11 : sCount c v y 11 = kfa c := rfl
theorem vc12 : sCount c v y 12 = kmo c := rfl
theorem vc13 : sCount c v y 13 = nI (kde v) := rfl
theorem vj0 (h : CX s c) {j : Nat} (hj : j < knj c) : sJob c (nI j) 0 = nI (zN c j) := (if_pos (hasJ h hj)).trans (cz h hj)
theorem vj1 (h : CX s c) {j : Nat} (hj : j < knj c) : sJob c (nI j) 1 = nI (qN c j) := (if_pos (hasJ h hj)).trans (cq h hj)
theorem vj2 (h : CX s c) {j : Nat} (hj : j < knj c) : sJob c (nI j) 2 = aT 24 (kpl c) (nI j) := if_pos (hasJ h hj)
theorem vj3 (h : CX s c) {j : Nat} (hj : j < knj c) : sJob c (nI j) 3 = kmv c j := (if_pos (hasJ h hj)).trans (aT_nI (ci_j h hj) (by decide) _)
theorem vs0 (h : CX s c) {k : Nat} (hk : k < knv c) : sServer c (nI k) 0 = nI (oN c k) := by
  refine (if_pos (hasS h hk)).trans ?_
  show (if pOpen c (nI k) then (1 : Int32) else 0) = _
  unfold oN
  by_cases g : kop c k = 1
  · rw [if_pos ((copI (ci_v h hk)).mpr g), if_pos g]
    rfl
  · rw [if_neg (fun q => g ((copI (ci_v h hk)).mp q)), if_neg g]
    rfl
theorem vs1 (h : CX s c) {k : Nat} (hk : k < knv c) : sServer c (nI k) 1 = nI (loadN c k) := (if_pos (hasS h hk)).trans (cld h (ci_v h hk))
theorem vs2 (h : CX s c) {k : Nat} (hk : k < knv c) : sServer c (nI k) 2 = nI (manyN c k) := (if_pos (hasS h hk)).trans (congrArg nI (bc_many h (ci_v h hk)))
theorem vs3 (h : CX s c) {k : Nat} (hk : k < knv c) : sServer c (nI k) 3 = if allN c = 0 then 0 else nI (1000 * loadN c k / allN c) := by
  have a := all_le h
  have b := load_le h k
  refine (if_pos (hasS h hk)).trans ?_
  show (if ksm c ≤ 0 then (0 : Int32) else aT 6 (kld c) (nI k) * 1000 / ksm c) = _
  rw [cld h (ci_v h hk), h.2.2.2.2.2.1]
  by_cases g : allN c = 0
  · rw [if_pos g, if_pos (by rw [g]; decide)]
  · rw [if_neg g, if_neg (nI_nle (by omega) (by omega)), show (1000 : Int32) = nI 1000 from rfl, pk_mul, pk_div (by omega) (by omega) (by omega), Nat.mul_comm]
theorem vs4 (h : CX s c) {k : Nat} (hk : k < knv c) : sServer c (nI k) 4 = sOn c (nI k) := if_pos (hasS h hk)
theorem vlv (h : CX s c) {k i : Nat} (hk : k < knv c) (hi : i < 2 ^ 31) : (if pHasS c (nI k) ∧ ¬ nI i < 0 then sLeaving c (nI k) (nI i) else -1) = sLeaving c (nI k) (nI i) := if_pos ⟨hasS h hk, nI_pos hi⟩
/-! refused -/
theorem rf_add0 (c : CS) : fNewJob c 0 0 0 = (-1, c) := if_neg (fun q => q.1.1 (by decide))
theorem rf_addn (c : CS) : fNewJob c 1 0 (nI (knv c)) = (-1, c) := if_neg (fun q => hasSn c q.2.2)
theorem rf_fin (c : CS) : fEnd c (nI (knj c)) = (-1, c) := if_neg (hasJn c)
theorem rf_bud (c : CS) : fBudget c (-1) = (-1, c) := if_neg (fun q => q.1 (by decide))
theorem rf_fac (c : CS) : fFactor c 500 = (-1, c) := if_neg (fun q => absurd q.2 (by decide))
theorem rf_mov (c : CS) : fMove c (nI (knj c)) 0 = (-1, c) := if_neg (fun q => hasJn c q.1)
theorem rf_ex1 (c : CS) : fExch c 0 (nI (knj c)) = (-1, c) := if_neg (fun q => hasJn c q.2.1)
theorem rf_ex2 (c : CS) : fExch c (nI (knj c)) 0 = (-1, c) := if_neg (fun q => hasJn c q.1)
theorem rf_ring (c : CS) : fRing c 0 1 (nI (knj c)) = (-1, c) := if_neg (fun q => hasJn c q.1.2.2)
theorem rf_even (c : CS) (x : SS) : fWalk c x 0 = (-1, (c, x)) := if_neg (fun q => q.1 (by decide))
theorem rf_close (c : CS) : fClose c (nI (knv c)) = (-1, c) := if_neg (hasSn c)
theorem rf_open (c : CS) : fOpen c (nI (knv c)) = (-1, c) := if_neg (hasSn c)
theorem rf_srv (c : CS) : sServer c (nI (knv c)) 0 = -1 := if_neg (hasSn c)
theorem rf_job (c : CS) : sJob c (nI (knj c)) 0 = -1 := if_neg (hasJn c)
theorem rf_lv (c : CS) : (if pHasS c (nI (knv c)) ∧ ¬ (0 : Int32) < 0 then sLeaving c (nI (knv c)) 0 else -1) = -1 := if_neg (fun q => hasSn c q.1)
theorem rf_step (c : CS) (x : SS) : sStep c x 9 = -1 := if_neg (fun q => absurd q.2 (by decide))
theorem rf_plan (c : CS) (x : SS) : sPlan c x (-1) = -1 := if_neg (fun q => q.1 (by decide))
theorem rf_few (c : CS) : sFewest c 2 = -1 := if_neg (fun q => absurd q.2 (by decide))
theorem rf_wo (c : CS) : sWithout c (nI (knv c)) = -1 := if_neg (hasSn c)
theorem rf_cnt (c : CS) (v : HW) (y : PS) : sCount c v y 15 = -1 := rfl
theorem rf_srv6 (h : CX s c) (g : ¬ nI (knv c) < 6) : fNewServer c = (-3, c) := if_neg g
theorem rf_job24 (h : CX s c) (g : ¬ nI (knj c) < 24) : ∃ r : Int32, r < 0 ∧ fNewJob c 1 0 0 = (r, c) := by
  unfold fNewJob
  split
  · split
    · exact ⟨-3, by decide, rfl⟩
    · exact ⟨-2, by decide, rfl⟩
  · exact ⟨-1, by decide, rfl⟩
end VA
/-- the object is as it was, for what the calls tell -/
def qE (o o1 : ES) : Prop := EI o1 ∧ eC o1 = eC o ∧ eH o1 = eH o
theorem q_rf {o : ES} (hE : EI o) : qE o o := ⟨hE, rfl, rfl⟩
theorem q_tr {o o1 o2 : ES} (h1 : qE o o1) (h2 : qE o1 o2) : qE o o2 := ⟨h2.1, h2.2.1.trans h1.2.1, h2.2.2.trans h1.2.2⟩
theorem q_act {o o1 : ES} {r : Int32 × CS} {v : Int32} (hE : EI o) (hr : r = (v, eC o)) (hv : v < 0) (ho : o1 = eAct o r) : qE o o1 := by
  subst hr
  have e : eH o1 = eH o := by
    rw [ho]
    exact if_pos hv
  have e2 : eC o1 = eC o := by rw [ho]; rfl
  have e3 : eY o1 = eY o := by rw [ho]; rfl
  exact ⟨⟨by rw [e2]; exact hE.1, by rw [e]; exact hE.2.1, by rw [e]; exact hE.2.2.1, by rw [e3]; exact hE.2.2.2⟩, e2, e⟩
theorem q_even {o o1 : ES} {r : Int32 × (CS × SS)} {v : Int32} {x : SS} (hE : EI o) (hr : r = (v, (eC o, x))) (hv : v < 0) (ho : o1 = eEven o r) : qE o o1 := by
  subst hr
  have e : eH o1 = eH o := by
    rw [ho]
    exact if_pos hv
  have e2 : eC o1 = eC o := by rw [ho]; rfl
  have e3 : eY o1 = eY o := by rw [ho]; rfl
  exact ⟨⟨by rw [e2]; exact hE.1, by rw [e]; exact hE.2.1, by rw [e]; exact hE.2.2.1, by rw [e3]; exact hE.2.2.2⟩, e2, e⟩
theorem q_of {o o1 : ES} (hE : EI o) (h1 : eC o1 = eC o) (h2 : eH o1 = eH o) (h3 : eY o1 = eY o) : qE o o1 := ⟨⟨by rw [h1]; exact hE.1, by rw [h2]; exact hE.2.1, by rw [h2]; exact hE.2.2.1, by rw [h3]; exact hE.2.2.2⟩, h1, h2⟩
theorem q_step {o o1 : ES} {p : Int32} (hE : EI o) (ho : o1 = eStep o p) : qE o o1 := q_of hE (by rw [ho]; rfl) (by rw [ho]; rfl) (by rw [ho]; rfl)
theorem q_plan {o o1 : ES} {p : Int32} (hE : EI o) (ho : o1 = ePlan o p) : qE o o1 := q_of hE (by rw [ho]; rfl) (by rw [ho]; rfl) (by rw [ho]; rfl)
theorem q_wo {o o1 : ES} {p : Int32} (hE : EI o) (ho : o1 = eWithout o p) : qE o o1 := q_of hE (by rw [ho]; rfl) (by rw [ho]; rfl) (by rw [ho]; rfl)
theorem q_few {o o1 : ES} {p : Int32} (hE : EI o) (ho : o1 = eFewest o p) : qE o o1 := q_of hE (by rw [ho]; rfl) (by rw [ho]; rfl) (by rw [ho]; rfl)
/-! an action, and undone -/
theorem rec_b {v : HW} (h1 : kde v ≤ 5) (h2 : kfr v < 5) (c : CS) (r : Int32) : kde (sRec v c r) ≤ 5 ∧ kfr (sRec v c r) < 5 := by
  unfold sRec
  split
  · exact ⟨h1, h2⟩
  · exact ⟨Nat.min_le_right _ _, Nat.mod_lt _ (by decide)⟩
theorem und_b {v : HW} (h1 : kde v ≤ 5) (h2 : kfr v < 5) : kde (sUndo v) ≤ 5 ∧ kfr (sUndo v) < 5 := by
  unfold sUndo
  by_cases g : 0 < kde v
  · rw [if_pos g]
    exact ⟨by show kde v - 1 ≤ 5; omega, Nat.mod_lt _ (by decide)⟩
  · rw [if_neg g]
    exact ⟨h1, h2⟩
theorem ei_act {o o1 : ES} {r : Int32 × CS} (hE : EI o) (hw : WI r.2) (ho : o1 = eAct o r) : EI o1 := by
  subst ho
  exact ⟨hw, (rec_b hE.2.1 hE.2.2.1 _ _).1, (rec_b hE.2.1 hE.2.2.1 _ _).2, hE.2.2.2⟩
theorem ei_even {o o1 : ES} {r : Int32 × (CS × SS)} (hE : EI o) (hw : WI r.2.1) (ho : o1 = eEven o r) : EI o1 := by
  subst ho
  exact ⟨hw, (rec_b hE.2.1 hE.2.2.1 _ _).1, (rec_b hE.2.1 hE.2.2.1 _ _).2, hE.2.2.2⟩
/-- the top of the history is c, over v -/
def tpE (v w : HW) (c : CS) : Prop := v = sKeep w c
theorem und_keep {w : HW} (h1 : kde w ≤ 5) (h2 : kfr w < 5) (c d : CS) : 0 < kde (sKeep w c) ∧ cUndo (sKeep w c) d = c := by
  have h : 0 < kde (sKeep w c) := by
    show 0 < min (kde w + 1) 5
    omega
  refine ⟨h, ?_⟩
  unfold cUndo
  rw [if_pos h]
  show va_up (khs w) (kfr w) c (((kfr w + 1) % 5 + 4) % 5) = c
  rw [show ((kfr w + 1) % 5 + 4) % 5 = kfr w by omega]
  exact if_pos rfl
/-- undo, right behind an action that was done: all is as it was -/
theorem ei_undo {o o1 o2 : ES} (hE : EI o) (hh : ∃ c r, eH o1 = sRec (eH o) c r ∧ ¬ r < 0 ∧ c = eC o) (hy : eY o1 = eY o) (ho : o2 = eUndo o1) : ¬ rUndo o1 < 0 ∧ EI o2 ∧ eC o2 = eC o := by
  obtain ⟨c, r, e1, hr, e2⟩ := hh
  have e3 : eH o1 = sKeep (eH o) c := by
    rw [e1]
    exact if_neg hr
  have k := und_keep hE.2.1 hE.2.2.1 c (eC o1)
  have b1 := rec_b hE.2.1 hE.2.2.1 c r
  rw [← e1] at b1
  have b2 := und_b b1.1 b1.2
  rw [← e3] at k
  have ec : eC o2 = eC o := by
    rw [ho]
    exact k.2.trans e2
  refine ⟨?_, ?_, ec⟩
  · unfold rUndo
    rw [if_pos k.1]
    exact nI_pos (by omega)
  · refine ⟨by rw [ec]; exact hE.1, ?_, ?_, ?_⟩
    · rw [ho]
      exact b2.1
    · rw [ho]
      exact b2.2
    · rw [ho]
      show kPlen (eY o1) ≤ 100
      rw [hy]
      exact hE.2.2.2
theorem hh_act {o o1 : ES} {r : Int32 × CS} (hr : ¬ r.1 < 0) (ho : o1 = eAct o r) : (∃ c q, eH o1 = sRec (eH o) c q ∧ ¬ q < 0 ∧ c = eC o) ∧ eY o1 = eY o := by
  subst ho
  exact ⟨⟨_, _, rfl, hr, rfl⟩, rfl⟩
theorem hh_even {o o1 : ES} {r : Int32 × (CS × SS)} (hr : ¬ r.1 < 0) (ho : o1 = eEven o r) : (∃ c q, eH o1 = sRec (eH o) c q ∧ ¬ q < 0 ∧ c = eC o) ∧ eY o1 = eY o := by
  subst ho
  exact ⟨⟨_, _, rfl, hr, rfl⟩, rfl⟩
theorem hh_q {o o1 o2 : ES} (h : (∃ c q, eH o1 = sRec (eH o) c q ∧ ¬ q < 0 ∧ c = eC o) ∧ eY o1 = eY o) (q : qE o1 o2) (hy : eY o2 = eY o1) : (∃ c q, eH o2 = sRec (eH o) c q ∧ ¬ q < 0 ∧ c = eC o) ∧ eY o2 = eY o := by
  rw [q.2.2, hy]
  exact h
/-! the sum of all that is told -/
theorem lcmp_eq (x : Int64) : lg_cmp x x = 0 := by
  unfold lg_cmp
  rw [if_neg (fun q => Int.lt_irrefl _ (Int64.lt_iff_toInt_lt.mp q)), if_pos rfl]
def smF (f : Nat → Int32) (z : Int64) : Nat → Int64
  | 0 => z
  | k + 1 => 31 * smF f z k + (f k).toInt64
abbrev vw0 : HW := ((0, 0), fun _ => cl0)
def sumC (c : CS) (k : Nat) : Int32 := sCount c vw0 pg0 (nI k)
def sumS (c : CS) (k : Nat) : Int32 := sServer c (nI (k / 5)) (nI (k % 5))
def sumJ (c : CS) (k : Nat) : Int32 := sJob c (nI (k / 4)) (nI (k % 4))
def sumF (c : CS) : Int64 := smF (sumJ c) (smF (sumS c) (smF (sumC c) 17 13) (5 * knv c)) (4 * knj c)
theorem sumC_eq (c : CS) (v : HW) (y : PS) : ∀ k, k < 13 → sCount c v y (nI k) = sumC c k
  | 0, _ => rfl
  | 1, _ => rfl
  | 2, _ => rfl
  | 3, _ => rfl
  | 4, _ => rfl
  | 5, _ => rfl
  | 6, _ => rfl
  | 7, _ => rfl
  | 8, _ => rfl
  | 9, _ => rfl
  | 10, _ => rfl
  | 11, _ => rfl
  | 12, _ => rfl
  | n + 13, h => absurd h (by omega)
