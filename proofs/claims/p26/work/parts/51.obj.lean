/-! ===== the object as one world ===== -/
abbrev AD : Type := Nat × (Nat → Nat) × (Nat → Nat) × (Nat → Nat) × (Nat → Nat) × (Nat → Nat → Nat) × Nat × (Nat → Nat)
abbrev adE (d : AD) : Nat := d.1
abbrev adN (d : AD) : Nat → Nat := d.2.1
abbrev adB (d : AD) : Nat → Nat := d.2.2.1
abbrev adT (d : AD) : Nat → Nat := d.2.2.2.1
abbrev adQ (d : AD) : Nat → Nat := d.2.2.2.2.1
abbrev adH (d : AD) : Nat → Nat → Nat := d.2.2.2.2.2.1
abbrev adA (d : AD) : Nat := d.2.2.2.2.2.2.1
abbrev adG (d : AD) : Nat → Nat := d.2.2.2.2.2.2.2
abbrev ES : Type := CS × CS × CS × HW × SS × PS
abbrev eC (o : ES) : CS := o.1
abbrev eB (o : ES) : CS := o.2.1
abbrev eT (o : ES) : CS := o.2.2.1
abbrev eH (o : ES) : HW := o.2.2.2.1
abbrev eX (o : ES) : SS := o.2.2.2.2.1
abbrev eY (o : ES) : PS := o.2.2.2.2.2
def XW (cI cQ : ClassId) (d : AD) (o : ES) : va_W := fl [(pgT cI (adG d) (eY o)), (evT (adE d) (adN d) (adB d) (adT d) (adQ d) (adA d) (adG d)), (hwT cI cQ (adQ d) (adH d) (eH o)), (stT cI (adA d) (eX o)), (clT cI (adN d) (eC o)), (clT cI (adB d) (eB o)), (clT cI (adT d) (eT o))]
def WI (c : CS) : Prop := CI c ∧ BI c
def EI (o : ES) : Prop := WI (eC o) ∧ kde (eH o) ≤ 5 ∧ kfr (eH o) < 5 ∧ kPlen (eY o) ≤ 100
def eAct (o : ES) (r : Int32 × CS) : ES := (r.2, eC o, eT o, sRec (eH o) (eC o) r.1, eX o, eY o)
def eEven (o : ES) (r : Int32 × (CS × SS)) : ES := (r.2.1, eC o, eT o, sRec (eH o) (eC o) r.1, r.2.2, eY o)
def eUndo (o : ES) : ES := (cUndo (eH o) (eC o), eB o, eT o, sUndo (eH o), eX o, eY o)
def eStep (o : ES) (p : Int32) : ES := (eC o, eB o, eT o, eH o, (if ¬ p < 0 ∧ p ≤ 3 then sChoose (eC o) (sTarget (eC o)) (eX o) else eX o), eY o)
def ePlan (o : ES) (p : Int32) : ES := (eC o, eB o, (if ¬ p < 0 ∧ p ≤ 4 then (fWalk (eC o) (eX o) 30).2.1 else eT o), eH o, (if ¬ p < 0 ∧ p ≤ 4 then (fWalk (eC o) (eX o) 30).2.2 else eX o), eY o)
def eWithout (o : ES) (p : Int32) : ES := (eC o, eB o, (if pHasS (eC o) p ∧ pOpen (eC o) p ∧ ¬ knO (eC o) ≤ 1 then sClose (eC o) p else eT o), eH o, eX o, eY o)
def eFewest (o : ES) (p : Int32) : ES := (eC o, eB o, (if ¬ p < 0 ∧ p ≤ 1 then eC o else eT o), eH o, eX o, eY o)
def rUndo (o : ES) : Int32 := if 0 < kde (eH o) then nI (kde (sUndo (eH o))) else -2
section XC
variable (l : Launch) (G : va_G) (cI cQ : ClassId) (d : AD) (o : ES)
theorem x_addServer (h : EI o) (z : Nat) : Met l yX4_addServer wsX4_addServer ({ frames := 5, cells := 0, slots := 0, locals := 165 } : Room) (mPc G cI cQ [.ref (adE d)] (XW cI cQ d o) z) (va_Qi (fun (r : Int32) (_ : Unit) => r = (fNewServer (eC o)).1) (mB G (va_A (XW cI cQ d o) z) (fun _ => XW cI cQ d (eAct o (fNewServer (eC o))))) (va_A (XW cI cQ d o) z)) 0 0 (va_A (XW cI cQ d o) z) := c_X4_addServer l G cI cQ (adE d) (adN d) (adB d) (adT d) (adQ d) (adH d) (adA d) (adG d) (eC o) (eB o) (eT o) (eH o) (eX o) (eY o) (ci_nv h.1.1) (ci_nj h.1.1) h.2.1 h.2.2.1 h.2.2.2 z
theorem x_add (h : EI o) (p0 p1 p2 : Int32) (z : Nat) : Met l yX4_add wsX4_add ({ frames := 5, cells := 0, slots := 0, locals := 165 } : Room) (mPc G cI cQ [.ref (adE d), .int p0, .int p1, .int p2] (XW cI cQ d o) z) (va_Qi (fun (r : Int32) (_ : Unit) => r = (fNewJob (eC o) p0 p1 p2).1) (mB G (va_A (XW cI cQ d o) z) (fun _ => XW cI cQ d (eAct o (fNewJob (eC o) p0 p1 p2)))) (va_A (XW cI cQ d o) z)) 0 0 (va_A (XW cI cQ d o) z) := c_X4_add l G cI cQ (adE d) (adN d) (adB d) (adT d) (adQ d) (adH d) (adA d) (adG d) (eC o) (eB o) (eT o) (eH o) (eX o) (eY o) (ci_nv h.1.1) (ci_nj h.1.1) h.2.1 h.2.2.1 h.2.2.2 p0 p1 p2 z
theorem x_finish (h : EI o) (p0 : Int32) (z : Nat) : Met l yX4_finish wsX4_finish ({ frames := 5, cells := 0, slots := 0, locals := 165 } : Room) (mPc G cI cQ [.ref (adE d), .int p0] (XW cI cQ d o) z) (va_Qi (fun (r : Int32) (_ : Unit) => r = (fEnd (eC o) p0).1) (mB G (va_A (XW cI cQ d o) z) (fun _ => XW cI cQ d (eAct o (fEnd (eC o) p0)))) (va_A (XW cI cQ d o) z)) 0 0 (va_A (XW cI cQ d o) z) := c_X4_finish l G cI cQ (adE d) (adN d) (adB d) (adT d) (adQ d) (adH d) (adA d) (adG d) (eC o) (eB o) (eT o) (eH o) (eX o) (eY o) (ci_nv h.1.1) (ci_nj h.1.1) h.2.1 h.2.2.1 h.2.2.2 p0 z
theorem x_setBudget (h : EI o) (p0 : Int32) (z : Nat) : Met l yX4_setBudget wsX4_setBudget ({ frames := 5, cells := 0, slots := 0, locals := 165 } : Room) (mPc G cI cQ [.ref (adE d), .int p0] (XW cI cQ d o) z) (va_Qi (fun (r : Int32) (_ : Unit) => r = (fBudget (eC o) p0).1) (mB G (va_A (XW cI cQ d o) z) (fun _ => XW cI cQ d (eAct o (fBudget (eC o) p0)))) (va_A (XW cI cQ d o) z)) 0 0 (va_A (XW cI cQ d o) z) := c_X4_setBudget l G cI cQ (adE d) (adN d) (adB d) (adT d) (adQ d) (adH d) (adA d) (adG d) (eC o) (eB o) (eT o) (eH o) (eX o) (eY o) (ci_nv h.1.1) (ci_nj h.1.1) h.2.1 h.2.2.1 h.2.2.2 p0 z
theorem x_setFactor (h : EI o) (p0 : Int32) (z : Nat) : Met l yX4_setFactor wsX4_setFactor ({ frames := 5, cells := 0, slots := 0, locals := 165 } : Room) (mPc G cI cQ [.ref (adE d), .int p0] (XW cI cQ d o) z) (va_Qi (fun (r : Int32) (_ : Unit) => r = (fFactor (eC o) p0).1) (mB G (va_A (XW cI cQ d o) z) (fun _ => XW cI cQ d (eAct o (fFactor (eC o) p0)))) (va_A (XW cI cQ d o) z)) 0 0 (va_A (XW cI cQ d o) z) := c_X4_setFactor l G cI cQ (adE d) (adN d) (adB d) (adT d) (adQ d) (adH d) (adA d) (adG d) (eC o) (eB o) (eT o) (eH o) (eX o) (eY o) (ci_nv h.1.1) (ci_nj h.1.1) h.2.1 h.2.2.1 h.2.2.2 p0 z
theorem x_move (h : EI o) (p0 p1 : Int32) (z : Nat) : Met l yX4_move wsX4_move ({ frames := 5, cells := 0, slots := 0, locals := 165 } : Room) (mPc G cI cQ [.ref (adE d), .int p0, .int p1] (XW cI cQ d o) z) (va_Qi (fun (r : Int32) (_ : Unit) => r = (fMove (eC o) p0 p1).1) (mB G (va_A (XW cI cQ d o) z) (fun _ => XW cI cQ d (eAct o (fMove (eC o) p0 p1)))) (va_A (XW cI cQ d o) z)) 0 0 (va_A (XW cI cQ d o) z) := c_X4_move l G cI cQ (adE d) (adN d) (adB d) (adT d) (adQ d) (adH d) (adA d) (adG d) (eC o) (eB o) (eT o) (eH o) (eX o) (eY o) (ci_nv h.1.1) (ci_nj h.1.1) h.2.1 h.2.2.1 h.2.2.2 p0 p1 z
theorem x_exchange (h : EI o) (p0 p1 : Int32) (z : Nat) : Met l yX4_exchange wsX4_exchange ({ frames := 5, cells := 0, slots := 0, locals := 165 } : Room) (mPc G cI cQ [.ref (adE d), .int p0, .int p1] (XW cI cQ d o) z) (va_Qi (fun (r : Int32) (_ : Unit) => r = (fExch (eC o) p0 p1).1) (mB G (va_A (XW cI cQ d o) z) (fun _ => XW cI cQ d (eAct o (fExch (eC o) p0 p1)))) (va_A (XW cI cQ d o) z)) 0 0 (va_A (XW cI cQ d o) z) := c_X4_exchange l G cI cQ (adE d) (adN d) (adB d) (adT d) (adQ d) (adH d) (adA d) (adG d) (eC o) (eB o) (eT o) (eH o) (eX o) (eY o) (ci_nv h.1.1) (ci_nj h.1.1) h.2.1 h.2.2.1 h.2.2.2 p0 p1 z
theorem x_ring (h : EI o) (p0 p1 p2 : Int32) (z : Nat) : Met l yX4_ring wsX4_ring ({ frames := 5, cells := 0, slots := 0, locals := 165 } : Room) (mPc G cI cQ [.ref (adE d), .int p0, .int p1, .int p2] (XW cI cQ d o) z) (va_Qi (fun (r : Int32) (_ : Unit) => r = (fRing (eC o) p0 p1 p2).1) (mB G (va_A (XW cI cQ d o) z) (fun _ => XW cI cQ d (eAct o (fRing (eC o) p0 p1 p2)))) (va_A (XW cI cQ d o) z)) 0 0 (va_A (XW cI cQ d o) z) := c_X4_ring l G cI cQ (adE d) (adN d) (adB d) (adT d) (adQ d) (adH d) (adA d) (adG d) (eC o) (eB o) (eT o) (eH o) (eX o) (eY o) (ci_nv h.1.1) (ci_nj h.1.1) h.2.1 h.2.2.1 h.2.2.2 p0 p1 p2 z
theorem x_close (h : EI o) (p0 : Int32) (z : Nat) : Met l yX4_close wsX4_close ({ frames := 6, cells := 0, slots := 0, locals := 165 } : Room) (mPc G cI cQ [.ref (adE d), .int p0] (XW cI cQ d o) z) (va_Qi (fun (r : Int32) (_ : Unit) => r = (fClose (eC o) p0).1) (mB G (va_A (XW cI cQ d o) z) (fun _ => XW cI cQ d (eAct o (fClose (eC o) p0)))) (va_A (XW cI cQ d o) z)) 0 0 (va_A (XW cI cQ d o) z) := c_X4_close l G cI cQ (adE d) (adN d) (adB d) (adT d) (adQ d) (adH d) (adA d) (adG d) (eC o) (eB o) (eT o) (eH o) (eX o) (eY o) (ci_nv h.1.1) (ci_nj h.1.1) h.2.1 h.2.2.1 h.2.2.2 p0 z
theorem x_open (h : EI o) (p0 : Int32) (z : Nat) : Met l yX4_open wsX4_open ({ frames := 5, cells := 0, slots := 0, locals := 165 } : Room) (mPc G cI cQ [.ref (adE d), .int p0] (XW cI cQ d o) z) (va_Qi (fun (r : Int32) (_ : Unit) => r = (fOpen (eC o) p0).1) (mB G (va_A (XW cI cQ d o) z) (fun _ => XW cI cQ d (eAct o (fOpen (eC o) p0)))) (va_A (XW cI cQ d o) z)) 0 0 (va_A (XW cI cQ d o) z) := c_X4_open l G cI cQ (adE d) (adN d) (adB d) (adT d) (adQ d) (adH d) (adA d) (adG d) (eC o) (eB o) (eT o) (eH o) (eX o) (eY o) (ci_nv h.1.1) (ci_nj h.1.1) h.2.1 h.2.2.1 h.2.2.2 p0 z
theorem x_even (h : EI o) (p0 : Int32) (z : Nat) : Met l yX4_even wsX4_even ({ frames := 5, cells := 0, slots := 0, locals := 165 } : Room) (mPc G cI cQ [.ref (adE d), .int p0] (XW cI cQ d o) z) (va_Qi (fun (r : Int32) (_ : Unit) => r = (fWalk (eC o) (eX o) p0).1) (mB G (va_A (XW cI cQ d o) z) (fun _ => XW cI cQ d (eEven o (fWalk (eC o) (eX o) p0)))) (va_A (XW cI cQ d o) z)) 0 0 (va_A (XW cI cQ d o) z) := c_X4_even l G cI cQ (adE d) (adN d) (adB d) (adT d) (adQ d) (adH d) (adA d) (adG d) (eC o) (eB o) (eT o) (eH o) (eX o) (eY o) (ci_nv h.1.1) (ci_nj h.1.1) h.2.1 h.2.2.1 h.2.2.2 p0 z
theorem x_undo (h : EI o) (z : Nat) : Met l yX4_undo wsX4_undo ({ frames := 4, cells := 0, slots := 0, locals := 145 } : Room) (mPc G cI cQ [.ref (adE d)] (XW cI cQ d o) z) (va_Qi (fun (r : Int32) (_ : Unit) => r = rUndo o) (mB G (va_A (XW cI cQ d o) z) (fun _ => XW cI cQ d (eUndo o))) (va_A (XW cI cQ d o) z)) 0 0 (va_A (XW cI cQ d o) z) := c_X4_undo l G cI cQ (adE d) (adN d) (adB d) (adT d) (adQ d) (adH d) (adA d) (adG d) (eC o) (eB o) (eT o) (eH o) (eX o) (eY o) (ci_nv h.1.1) (ci_nj h.1.1) h.2.1 h.2.2.1 h.2.2.2 z
theorem x_step (h : EI o) (p0 : Int32) (z : Nat) : Met l yX4_step wsX4_step ({ frames := 3, cells := 0, slots := 0, locals := 112 } : Room) (mPc G cI cQ [.ref (adE d), .int p0] (XW cI cQ d o) z) (va_Qi (fun (r : Int32) (_ : Unit) => r = sStep (eC o) (eX o) p0) (mB G (va_A (XW cI cQ d o) z) (fun _ => XW cI cQ d (eStep o p0))) (va_A (XW cI cQ d o) z)) 0 0 (va_A (XW cI cQ d o) z) := c_X4_step l G cI cQ (adE d) (adN d) (adB d) (adT d) (adQ d) (adH d) (adA d) (adG d) (eC o) (eB o) (eT o) (eH o) (eX o) (eY o) (ci_nv h.1.1) (ci_nj h.1.1) h.2.1 h.2.2.1 h.2.2.2 p0 z
theorem x_plan (h : EI o) (p0 : Int32) (z : Nat) : Met l yX4_plan wsX4_plan ({ frames := 4, cells := 0, slots := 0, locals := 137 } : Room) (mPc G cI cQ [.ref (adE d), .int p0] (XW cI cQ d o) z) (va_Qi (fun (r : Int32) (_ : Unit) => r = sPlan (eC o) (eX o) p0) (mB G (va_A (XW cI cQ d o) z) (fun _ => XW cI cQ d (ePlan o p0))) (va_A (XW cI cQ d o) z)) 0 0 (va_A (XW cI cQ d o) z) := c_X4_plan l G cI cQ (adE d) (adN d) (adB d) (adT d) (adQ d) (adH d) (adA d) (adG d) (eC o) (eB o) (eT o) (eH o) (eX o) (eY o) (ci_nv h.1.1) (ci_nj h.1.1) h.2.1 h.2.2.1 h.2.2.2 p0 z
theorem x_without (h : EI o) (p0 : Int32) (z : Nat) : Met l yX4_without wsX4_without ({ frames := 5, cells := 0, slots := 0, locals := 122 } : Room) (mPc G cI cQ [.ref (adE d), .int p0] (XW cI cQ d o) z) (va_Qi (fun (r : Int32) (_ : Unit) => r = sWithout (eC o) p0) (mB G (va_A (XW cI cQ d o) z) (fun _ => XW cI cQ d (eWithout o p0))) (va_A (XW cI cQ d o) z)) 0 0 (va_A (XW cI cQ d o) z) := c_X4_without l G cI cQ (adE d) (adN d) (adB d) (adT d) (adQ d) (adH d) (adA d) (adG d) (eC o) (eB o) (eT o) (eH o) (eX o) (eY o) (ci_nv h.1.1) (ci_nj h.1.1) h.2.1 h.2.2.1 h.2.2.2 p0 z
theorem x_fewest (h : EI o) (p0 : Int32) (z : Nat) : Met l yX4_fewest wsX4_fewest ({ frames := 9, cells := 0, slots := 0, locals := 390 } : Room) (mPc G cI cQ [.ref (adE d), .int p0] (XW cI cQ d o) z) (va_Qi (fun (r : Int32) (_ : Unit) => r = sFewest (eC o) p0) (mB G (va_A (XW cI cQ d o) z) (fun _ => XW cI cQ d (eFewest o p0))) (va_A (XW cI cQ d o) z)) 0 0 (va_A (XW cI cQ d o) z) := c_X4_fewest l G cI cQ (adE d) (adN d) (adB d) (adT d) (adQ d) (adH d) (adA d) (adG d) (eC o) (eB o) (eT o) (eH o) (eX o) (eY o) (ci_nv h.1.1) (ci_nj h.1.1) h.2.1 h.2.2.1 h.2.2.2 p0 z
theorem x_count (h : EI o) (p0 : Int32) : Met l yX4_count wsX4_count ({ frames := 4, cells := 0, slots := 0, locals := 122 } : Room) (pPc G cI cQ [.ref (adE d), .int p0] (XW cI cQ d o)) (vp_Si (fun r => r = sCount (eC o) (eH o) (eY o) p0)) 0 0 (fun _ => False) := c_X4_count l G cI cQ (adE d) (adN d) (adB d) (adT d) (adQ d) (adH d) (adA d) (adG d) (eC o) (eB o) (eT o) (eH o) (eX o) (eY o) (ci_nv h.1.1) (ci_nj h.1.1) h.2.1 h.2.2.1 h.2.2.2 p0
theorem x_server (h : EI o) (p0 p1 : Int32) : Met l yX4_server wsX4_server ({ frames := 2, cells := 0, slots := 0, locals := 44 } : Room) (pPc G cI cQ [.ref (adE d), .int p0, .int p1] (XW cI cQ d o)) (vp_Si (fun r => r = sServer (eC o) p0 p1)) 0 0 (fun _ => False) := c_X4_server l G cI cQ (adE d) (adN d) (adB d) (adT d) (adQ d) (adH d) (adA d) (adG d) (eC o) (eB o) (eT o) (eH o) (eX o) (eY o) (ci_nv h.1.1) (ci_nj h.1.1) h.2.1 h.2.2.1 h.2.2.2 p0 p1
theorem x_job (h : EI o) (p0 p1 : Int32) : Met l yX4_job wsX4_job ({ frames := 1, cells := 0, slots := 0, locals := 21 } : Room) (pPc G cI cQ [.ref (adE d), .int p0, .int p1] (XW cI cQ d o)) (vp_Si (fun r => r = sJob (eC o) p0 p1)) 0 0 (fun _ => False) := c_X4_job l G cI cQ (adE d) (adN d) (adB d) (adT d) (adQ d) (adH d) (adA d) (adG d) (eC o) (eB o) (eT o) (eH o) (eX o) (eY o) (ci_nv h.1.1) (ci_nj h.1.1) h.2.1 h.2.2.1 h.2.2.2 p0 p1
theorem x_leaving (h : EI o) (p0 p1 : Int32) : Met l yX4_leaving wsX4_leaving ({ frames := 4, cells := 0, slots := 0, locals := 89 } : Room) (pPc G cI cQ [.ref (adE d), .int p0, .int p1] (XW cI cQ d o)) (vp_Si (fun r => r = (if pHasS (eC o) p0 ∧ ¬ p1 < 0 then sLeaving (eC o) p0 p1 else -1))) 0 0 (fun _ => False) := c_X4_leaving l G cI cQ (adE d) (adN d) (adB d) (adT d) (adQ d) (adH d) (adA d) (adG d) (eC o) (eB o) (eT o) (eH o) (eX o) (eY o) (ci_nv h.1.1) (ci_nj h.1.1) h.2.1 h.2.2.1 h.2.2.2 p0 p1
end XC
/-! the rows of calls -/
section XR
variable {p : Program} {l : Launch} {e : Env} {R : Room} {s : State} {m : MethodId} {args : Array Value} {below : List Frame} {meth : Method} {c : Code} {H : Heap} {locs : List Loc} {cells slots : Nat} {Q : State → Prop}
variable {pc nL mc ms n index : Nat} {ls : Array Slot} {rest st0 As : List Value} {A0 : Nat → Prop} {H0 : Heap} {y : MethodName} {bytes cc : ByteArray} {maxL : Nat} {ret : Option FieldType} {wy Ts : List Cond} {rm : Room} {own : String} {G : va_G} {cI cQ : ClassId} {d : AD} {o o1 : ES} {wc wr : va_W}
theorem P_tl {x : Nat × va_E} (h : va_P G vwCl (x :: wc) H) : va_P G vwCl wc H := P_mem.mpr fun q hq => P_mem.mp h q (List.mem_cons_of_mem _ hq)
theorem xw3 (cI cQ : ClassId) (d : AD) (o : ES) : (XW cI cQ d o)[3]? = some (adE d, .inr (4, [.ref (adN d 0), .ref (adB d 0), .ref (adT d 0), .ref (adQ d 0), .ref (adA d), .ref (adG d 0)])) := rfl
/-- a call of the object that only reads -/
theorem xpV {v : Int32} (S : CallFix p m c cc nL s args Ts own) (hM : Met l y wy rm (pPc G cI cQ (.ref (adE d) :: As) (XW cI cQ d o)) (vp_Si (fun r => r = v)) 0 0 (fun _ => False)) (cw : CallW R s args own RX4 index y bytes maxL ret wy rm 0 0 n)
    (hK : SF G cI cQ s) (hP : va_P G vwCl (XW cI cQ d o) H)
    (hn : As.length = n) (hsize : ls.size = nL) (hst : st0 = As.reverse ++ .ref (adE d) :: rest) (hW : (rest.map fun v => v.category).sum ≤ 8) (hdg : decode cc pc = .ok (.invokevirtual index, 3)) (hf : cells ≤ R.cells ∧ slots ≤ R.slots)
    (kk : W p l e R s m args below meth c H locs cells slots Q (F0 m (pc + 3) ls (.int v :: rest))) : W p l e R s m args below meth c H locs cells slots Q (F0 m pc ls st0) :=
  va_callSi (va_runV (g := F0 m pc ls st0) S hM cw ⟨pPc.blind, va_recv hK.1 hP rfl (xw3 cI cQ d o), fun U hU hW => ⟨rfl, by rw [hU]; exact hP, SF.warm hW hK⟩⟩ rfl hn hsize hst (by show 2 * 0 + _ ≤ 8; omega) hdg hf) (fun r hr => by subst hr; exact kk)
/-- a call of the object that writes -/
theorem xmV {v : Int32} (S : CallFix p m c cc nL s args Ts own) (hM : Met l y wy rm (mPc G cI cQ (.ref (adE d) :: As) (XW cI cQ d o) H.size) (va_Qi (fun (r : Int32) (_ : Unit) => r = v) (mB G (va_A (XW cI cQ d o) H.size) (fun _ => XW cI cQ d o1)) (va_A (XW cI cQ d o) H.size)) 0 0 (va_A (XW cI cQ d o) H.size)) (cw : CallW R s args own RX4 index y bytes maxL ret wy rm 0 0 n)
    (hK : SF G cI cQ s) (hP : va_P G vwCl (XW cI cQ d o) H) (hD : va_D A0 (XW cI cQ d o)) (hS : va_S A0 H0 H locs) (hA : ∀ q, H0.size ≤ q → A0 q)
    (hn : As.length = n) (hsize : ls.size = nL) (hst : st0 = As.reverse ++ .ref (adE d) :: rest) (hW : (rest.map fun v => v.category).sum ≤ 8) (hdg : decode cc pc = .ok (.invokevirtual index, 3)) (hf : cells ≤ R.cells ∧ slots ≤ R.slots)
    (kk : ∀ (o2 : ES) (H1 : Heap) (locs1 : List Loc), o2 = o1 → va_P G vwCl (XW cI cQ d o2) H1 → va_D A0 (XW cI cQ d o2) → va_S A0 H0 H1 locs1 → W p l e R s m args below meth c H1 locs1 cells slots Q (F0 m (pc + 3) ls (.int v :: rest))) : W p l e R s m args below meth c H locs cells slots Q (F0 m pc ls st0) := by
  have hFc : ∀ q, va_A (XW cI cQ d o) H.size q → A0 q := by
    rintro q (⟨k, e9, he⟩ | h)
    · exact hD.2 k (q, e9) he
    · exact hA q (Nat.le_trans hS.1 h)
  exact va_calli (va_runV (g := F0 m pc ls st0) S hM cw ⟨mPc.blind, va_recv hK.1 hP rfl (xw3 cI cQ d o), fun U hU hW => ⟨rfl, by rw [hU], by rw [hU]; exact hP, SF.warm hW hK, hD.weaken (fun _ _ _ _ => trivial)⟩⟩ rfl hn hsize hst (by show 2 * 0 + _ ≤ 8; omega) hdg hf) hS (fun q _ h => hFc q h) hFc
    (fun r u t H1 locs1 ht hvm hpo hB hz1 hk1 hS1 => by
      obtain ⟨hP1, hD1⟩ := hB
      rw [ht] at hP1
      subst hpo
      exact kk o1 H1 locs1 rfl hP1 ⟨hD1.1, fun k q hk => hFc _ (hD1.2 k q hk)⟩ hS1)
/-- a static method of the law that writes, and answers true; what it leaves is told by post -/
theorem xmS {post : ES → Prop} (S : CallFix p m c cc nL s args Ts own) (hM : Met l y wy rm (mPc G cI cQ As (XW cI cQ d o) H.size) (va_Qi (fun (r : Int32) (u : ES) => r = 1 ∧ post u) (mB G (va_A (XW cI cQ d o) H.size) (XW cI cQ d)) (va_A (XW cI cQ d o) H.size)) mc ms (va_A (XW cI cQ d o) H.size)) (cw : CallB R s args own index y bytes maxL ret wy rm mc ms n ∧ (Cond.static y).before args s = true)
    (hK : SF G cI cQ s) (hP : va_P G vwCl (XW cI cQ d o) H) (hD : va_D A0 (XW cI cQ d o)) (hS : va_S A0 H0 H locs) (hA : ∀ q, H0.size ≤ q → A0 q)
    (hn : As.length = n) (hsize : ls.size = nL) (hst : st0 = As.reverse ++ rest) (hW : (rest.map fun v => v.category).sum ≤ 8) (hdg : decode cc pc = .ok (.invokestatic index, 3)) (hf : cells + mc ≤ R.cells ∧ slots + ms ≤ R.slots)
    (kk : ∀ (o2 : ES) (H1 : Heap) (locs1 : List Loc), post o2 → va_P G vwCl (XW cI cQ d o2) H1 → va_D A0 (XW cI cQ d o2) → va_S A0 H0 H1 locs1 → W p l e R s m args below meth c H1 locs1 (cells + mc) (slots + ms) Q (F0 m (pc + 3) ls (.int 1 :: rest))) : W p l e R s m args below meth c H locs cells slots Q (F0 m pc ls st0) := by
  have hFc : ∀ q, va_A (XW cI cQ d o) H.size q → A0 q := by
    rintro q (⟨k, e9, he⟩ | h)
    · exact hD.2 k (q, e9) he
    · exact hA q (Nat.le_trans hS.1 h)
  exact va_calli (va_runS (g := F0 m pc ls st0) S hM cw ⟨mPc.blind, fun U hU hW => ⟨rfl, by rw [hU], by rw [hU]; exact hP, SF.warm hW hK, hD.weaken (fun _ _ _ _ => trivial)⟩⟩ rfl hn hsize hst (by show 2 * 0 + _ ≤ 8; omega) hdg hf) hS (fun q _ h => hFc q h) hFc
    (fun r u t H1 locs1 ht hvm hpo hB hz1 hk1 hS1 => by
      obtain ⟨hP1, hD1⟩ := hB
      rw [ht] at hP1
      obtain ⟨hr, hpo⟩ := hpo
      subst hr
      exact kk u H1 locs1 hpo hP1 ⟨hD1.1, fun k q hk => hFc _ (hD1.2 k q hk)⟩ hS1)
/-- a static method that reads, and answers a number -/
theorem xpS {post : Int32 → Prop} (S : CallFix p m c cc nL s args Ts own) (hM : Met l y wy rm (pPc G cI cQ As wc) (vp_Si post) 0 0 (fun _ => False)) (cw : CallB R s args own index y bytes maxL ret wy rm 0 0 n ∧ (Cond.static y).before args s = true)
    (hK : SF G cI cQ s) (hP : va_P G vwCl wc H)
    (hn : As.length = n) (hsize : ls.size = nL) (hst : st0 = As.reverse ++ rest) (hW : (rest.map fun v => v.category).sum ≤ 8) (hdg : decode cc pc = .ok (.invokestatic index, 3)) (hf : cells ≤ R.cells ∧ slots ≤ R.slots)
    (kk : ∀ r : Int32, post r → W p l e R s m args below meth c H locs cells slots Q (F0 m (pc + 3) ls (.int r :: rest))) : W p l e R s m args below meth c H locs cells slots Q (F0 m pc ls st0) :=
  va_callSi (va_runS (g := F0 m pc ls st0) S hM cw ⟨pPc.blind, fun U hU hW => ⟨rfl, by rw [hU]; exact hP, SF.warm hW hK⟩⟩ rfl hn hsize hst (by show 2 * 0 + _ ≤ 8; omega) hdg hf) kk
theorem va_callSl9 {post : Int64 → Prop} {a : Array Value} (hr : va_Run p l e R s m args below meth c H locs cells slots 0 0 (F0 m pc ls st0) rest (vp_Sl post a) (fun _ => False))
    (kk : ∀ r : Int64, post r → W p l e R s m args below meth c H locs cells slots Q (F0 m (pc + 3) ls (.long r :: rest))) : W p l e R s m args below meth c H locs cells slots Q (F0 m pc ls st0) := by
  intro T hT X
  obtain ⟨v, st₀, t, T', L, h0, X', hL, e1, e2, ⟨r, hv, hp, hh⟩, st⟩ := hr T hT X
  cases hv
  obtain ⟨t2, a1, b1⟩ := kk r hp T' (by rw [e1, hh, h0]) (Stand.forget X' (fun q h => (hL q h).elim))
  exact ⟨t2, st t2 a1, b1⟩
/-- a static method that reads, and answers a long -/
theorem xlS {v : Int64} (S : CallFix p m c cc nL s args Ts own) (hM : Met l y wy rm (pPc G cI cQ As wc) (vp_Sl (fun r => r = v)) 0 0 (fun _ => False)) (cw : CallB R s args own index y bytes maxL ret wy rm 0 0 n ∧ (Cond.static y).before args s = true)
    (hK : SF G cI cQ s) (hP : va_P G vwCl wc H)
    (hn : As.length = n) (hsize : ls.size = nL) (hst : st0 = As.reverse ++ rest) (hW : (rest.map fun v => v.category).sum ≤ 8) (hdg : decode cc pc = .ok (.invokestatic index, 3)) (hf : cells ≤ R.cells ∧ slots ≤ R.slots)
    (kk : W p l e R s m args below meth c H locs cells slots Q (F0 m (pc + 3) ls (.long v :: rest))) : W p l e R s m args below meth c H locs cells slots Q (F0 m pc ls st0) :=
  va_callSl9 (va_runS (g := F0 m pc ls st0) S hM cw ⟨pPc.blind, fun U hU hW => ⟨rfl, by rw [hU]; exact hP, SF.warm hW hK⟩⟩ rfl hn hsize hst (by show 2 * 0 + _ ≤ 8; omega) hdg hf) (fun r hr => by subst hr; exact kk)
theorem p_lret {w v : Int64} (hx : p.tables.exec = Jvm.exec) (hb : c.code = cc) (hr : meth.sig.returnType = some .long) (hlocks : meth.locks = false) (hv : v = w) (hdg : decode cc pc = .ok (.lreturn, 1)) : W p l e R s m args below meth c s.heap [] 0 0 (MQ below (vp_Sl (fun r => r = w)) args s 0 0 (fun _ => False)) (F0 m pc ls [.long v]) :=
  W.lret hx hb hr (fun t ht _ => ⟨v, rfl, hv, ht⟩) (fun q h => by cases h) hdg hlocks
end XR
