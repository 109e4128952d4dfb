def gEvB (z : MS) (nv nj : Nat) (p : Int32) : Int32 × MS := if pIn p 1 30 then (nI (evF nv nj p.toNatClampNeg z).1, (evF nv nj p.toNatClampNeg z).2) else (-1, z)
/-- what a plan leaves alone -/
abbrev mRest (z t : MS) : Prop := kMpast t = kMpast z ∧ kMbef t = kMbef z ∧ kMkept t = kMkept z ∧ kMtext t = kMtext z ∧ kMtyped t = kMtyped z ∧ kMat t = kMat z ∧ kMfail t = kMfail z ∧ kMnums t = kMnums z
theorem gFind_rest (z : MS) (nv nj : Nat) : mRest z (gFind z nv nj) := by
  unfold gFind
  split
  · exact ⟨rfl, rfl, rfl, rfl, rfl, rfl, rfl, rfl⟩
  · split <;> exact ⟨rfl, rfl, rfl, rfl, rfl, rfl, rfl, rfl⟩
theorem mRest_tr {a b c : MS} (h : mRest a b) (g : mRest b c) : mRest a c := ⟨g.1.trans h.1, g.2.1.trans h.2.1, g.2.2.1.trans h.2.2.1, g.2.2.2.1.trans h.2.2.2.1, g.2.2.2.2.1.trans h.2.2.2.2.1, g.2.2.2.2.2.1.trans h.2.2.2.2.2.1, g.2.2.2.2.2.2.1.trans h.2.2.2.2.2.2.1, g.2.2.2.2.2.2.2.trans h.2.2.2.2.2.2.2⟩
theorem mStp_rest (z : MS) (nv nj : Nat) : mRest z (mStp nv nj z) := mRest_tr (gFind_rest z nv nj) ⟨rfl, rfl, rfl, rfl, rfl, rfl, rfl, rfl⟩
theorem evF_rest (nv nj : Nat) : ∀ (n : Nat) (z : MS), mRest z (evF nv nj n z).2
  | 0, z => ⟨rfl, rfl, rfl, rfl, rfl, rfl, rfl, rfl⟩
  | n + 1, z => by
    unfold evF
    split
    · exact mRest_tr (mStp_rest z nv nj) (evF_rest nv nj n _)
    · exact gFind_rest z nv nj
theorem gEvB_rest (z : MS) (nv nj : Nat) (p : Int32) : mRest z (gEvB z nv nj p).2 := by
  unfold gEvB
  split
  · exact evF_rest _ _ _ _
  · exact ⟨rfl, rfl, rfl, rfl, rfl, rfl, rfl, rfl⟩
theorem in_steps {p : Int32} (h : pIn p 1 30) : p.toNatClampNeg ≤ 30 ∧ p = nI p.toNatClampNeg := by
  obtain ⟨j, a, b, c⟩ := steps_nI h.1 (Int32.not_lt.mp h.2)
  rw [c]
  exact ⟨a, b⟩
theorem evF_mV (nv nj : Nat) : ∀ (n : Nat) (z : MS), mV (kMs z) nv nj → mV (kMs (evF nv nj n z).2) nv nj
  | 0, z, h => h
  | n + 1, z, h => by
    unfold evF
    split
    · rename_i q
      exact evF_mV nv nj n _ (ev_ok h q).2
    · show mV (kMs (gFind z nv nj)) nv nj
      rw [gFind_s]
      exact h
abbrev zPl (z : MS) (nv nj : Nat) : Nat × MS := evF nv nj 30 (uMbef z (kMs z))
def rMPlan (z : MS) (nv nj : Nat) (w : Int32) : Int32 := if pIn w 0 4 then (if w = 0 then nI (zPl z nv nj).1 else if w = 1 then kMs (zPl z nv nj).2 5 - kMbef (zPl z nv nj).2 5 else if w = 2 then kMbef (zPl z nv nj).2 3 - kMs (zPl z nv nj).2 3 else if w = 3 then mGreat (kMs (zPl z nv nj).2) nv nj else (if pMEven (kMs (zPl z nv nj).2) nv nj then 1 else 0)) else -1
def gMPlan (z : MS) (nv nj : Nat) (w : Int32) : MS := if pIn w 0 4 then uMs (zPl z nv nj).2 (kMbef (zPl z nv nj).2) else z
