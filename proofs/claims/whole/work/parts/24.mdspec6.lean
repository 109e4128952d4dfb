/-! the reference: what every part keeps -/
abbrev njo (z : MS) : Nat := (kMs z 2).toNatClampNeg
theorem gRing_mV {s : Nat → Int32} {nv nj : Nat} (a b d : Int32) (h : mV s nv nj) : mV (gRing s nv nj a b d).2 nv nj := by
  unfold gRing
  split
  · rename_i q
    split
    · exact h
    · rename_i r
      have ha := has_in q.1.1 h.1.2.2.2
      have hb := has_in q.1.2.1 h.1.2.2.2
      have hd := has_in q.1.2.2 h.1.2.2.2
      have oa := place_open h q.1.1 (fun h9 => r (Or.inl (Or.inl h9)))
      have ob := place_open h q.1.2.1 (fun h9 => r (Or.inl (Or.inr (Or.inl h9))))
      have od := place_open h q.1.2.2 (fun h9 => r (Or.inl (Or.inr (Or.inr h9))))
      exact mV_goes hd (open_goes hb (open_goes ha oa)) (mV_goes hb (open_goes ha od) (mV_goes ha ob h))
  · exact h
theorem adds_at (s : Nat → Int32) (nj : Nat) (a b k : Int32) (i : Nat) : mAdds s nj a b k i = if i = 2 then nI (nj + 1) else if i = 6 + 4 * nj + 3 then 0 else if i = 6 + 4 * nj + 2 then k else if i = 6 + 4 * nj + 1 then b else if i = 6 + 4 * nj then a else s i := rfl
theorem adds_2 (s : Nat → Int32) {nj i : Nat} (hi : i < 24) (a b k : Int32) : mOf (mAdds s nj a b k) (nI i) 2 = if i = nj then k else mOf s (nI i) 2 := by
  rw [mOf_2 _ hi, mOf_2 _ hi, adds_at]
  rw [if_neg (by omega), if_neg (by omega)]
  by_cases e : i = nj
  · subst e; rw [if_pos rfl, if_pos rfl]
  · rw [if_neg (by omega), if_neg (by omega), if_neg (by omega), if_neg e]
theorem mV_adds {s : Nat → Int32} {nv nj : Nat} {a b k : Int32} (hn : nj < 24) (hk : pMOpen s nv k) (h : mV s nv nj) : mV (mAdds s nj a b k) nv (nj + 1) := by
  have e1 : mAdds s nj a b k 1 = s 1 := by
    rw [adds_at, if_neg (by decide), if_neg (by omega), if_neg (by omega), if_neg (by omega), if_neg (by omega)]
  have e0 : mAdds s nj a b k 0 = s 0 := by
    rw [adds_at, if_neg (by decide), if_neg (by omega), if_neg (by omega), if_neg (by omega), if_neg (by omega)]
  refine ⟨⟨e0.trans h.1.1, h.1.2.1, by rw [adds_at, if_pos rfl], hn⟩, fun i hi => ?_⟩
  rw [adds_2 s (by omega)]
  by_cases e : i = nj
  · rw [if_pos e]; exact Or.inr (open_s1 e1 hk)
  · rw [if_neg e]
    exact (h.2 i (by omega)).imp id (fun q => open_s1 e1 q)
theorem gAdds_mV {s : Nat → Int32} {nv nj : Nat} (a b k : Int32) (h : mV s nv nj) : mV (gAdds s nv nj a b k).2 nv ((gAdds s nv nj a b k).2 2).toNatClampNeg := by
  unfold gAdds
  split
  · split
    · rename_i o
      split
      · exact mV_to h
      · rename_i q
        have hn : nj < 24 := by
          rcases Nat.lt_or_ge nj 24 with g | g
          · exact g
          · have h9 := h.1.2.2.2
            exact absurd (by rw [show nj = 24 from by omega]; rfl) q
        exact mV_to (mV_adds hn o h)
    · exact mV_to h
  · exact mV_to h
theorem gEvB_mV {z : MS} {nv nj : Nat} (p : Int32) (h : mV (kMs z) nv nj) : mV (kMs (gEvB z nv nj p).2) nv nj := by
  unfold gEvB
  split
  · exact evF_mV nv nj _ z h
  · exact h
theorem gDoes_mV {z : MS} {nv nj : Nat} (L : Int32) (h : mV (kMs z) nv nj) : mV (kMs (gDoes z nv nj L).2) nv (njo (gDoes z nv nj L).2) := by
  unfold gDoes
  split
  · exact mV_to (gFin_mV _ h)
  split
  · exact gAdds_mV _ _ _ h
  split
  · exact mV_to (gMoves_mV _ _ h)
  split
  · exact mV_to (gRing_mV _ _ _ h)
  split
  · exact mV_to (gExch_mV _ _ h)
  · exact mV_to (gEvB_mV _ h)
theorem gDoes_rest (z : MS) (nv nj : Nat) (L : Int32) : mRest z (gDoes z nv nj L).2 := by
  unfold gDoes
  split
  · exact ⟨rfl, rfl, rfl, rfl, rfl, rfl, rfl, rfl⟩
  split
  · exact ⟨rfl, rfl, rfl, rfl, rfl, rfl, rfl, rfl⟩
  split
  · exact ⟨rfl, rfl, rfl, rfl, rfl, rfl, rfl, rfl⟩
  split
  · exact ⟨rfl, rfl, rfl, rfl, rfl, rfl, rfl, rfl⟩
  split
  · exact ⟨rfl, rfl, rfl, rfl, rfl, rfl, rfl, rfl⟩
  · exact gEvB_rest z nv nj _
/-- what a run leaves alone -/
abbrev mR3 (z t : MS) : Prop := kMpast t = kMpast z ∧ kMbef t = kMbef z ∧ kMkept t = kMkept z ∧ kMtext t = kMtext z ∧ kMtyped t = kMtyped z
theorem mR3_tr {a b c : MS} (h : mR3 a b) (g : mR3 b c) : mR3 a c := ⟨g.1.trans h.1, g.2.1.trans h.2.1, g.2.2.1.trans h.2.2.1, g.2.2.2.1.trans h.2.2.2.1, g.2.2.2.2.trans h.2.2.2.2⟩
theorem mR3_of {a b : MS} (h : mRest a b) : mR3 a b := ⟨h.1, h.2.1, h.2.2.1, h.2.2.2.1, h.2.2.2.2.1⟩
theorem orA_R3 : ∀ (n i : Nat) (z : MS), mR3 z (orA n i z)
  | 0, _, _ => ⟨rfl, rfl, rfl, rfl, rfl⟩
  | n + 1, i, z => by
    unfold orA
    split
    · split
      · exact ⟨rfl, rfl, rfl, rfl, rfl⟩
      · exact mR3_tr (b := gRead (gSkip z) i) ⟨rfl, rfl, rfl, rfl, rfl⟩ (orA_R3 n (i + 1) _)
    · exact ⟨rfl, rfl, rfl, rfl, rfl⟩
theorem orA_at : ∀ (n i : Nat) (z : MS), kMat z ≤ kMat (orA n i z)
  | 0, _, _ => Nat.le_refl _
  | n + 1, i, z => by
    unfold orA
    split
    · split
      · exact Nat.le_add_right _ _
      · have h := orA_at n (i + 1) (gRead (gSkip z) i)
        have h2 : kMat (gRead (gSkip z) i) = kMat z + sk z + rd4 (gSkip z) := rfl
        omega
    · exact Nat.le_refl _
theorem zA_R3 (z : MS) : mR3 z (zA z) := by
  have h := orA_R3 (oN z) 0 (oS z)
  exact ⟨h.1, h.2.1, h.2.2.1, h.2.2.2.1, h.2.2.2.2⟩
theorem oD_R3 (z : MS) (nv nj : Nat) : mR3 z (oD z nv nj).2 := by
  have h := gDoes_rest (uMat (zA z) (kMat (zA z) + sk (zA z) + 1)) nv nj (rLook z)
  have g := zA_R3 z
  exact ⟨h.1.trans g.1, h.2.1.trans g.2.1, h.2.2.1.trans g.2.2.1, h.2.2.2.1.trans g.2.2.2.1, h.2.2.2.2.1.trans g.2.2.2.2⟩
theorem gOrder_R3 (z : MS) (nv nj : Nat) : mR3 z (gOrder z nv nj) := by
  unfold gOrder
  split
  · exact ⟨rfl, rfl, rfl, rfl, rfl⟩
  split
  · split
    · have g := oD_R3 z nv nj
      exact ⟨g.1, g.2.1, g.2.2.1, g.2.2.2.1, g.2.2.2.2⟩
    · have g := zA_R3 z
      exact ⟨g.1, g.2.1, g.2.2.1, g.2.2.2.1, g.2.2.2.2⟩
  · exact zA_R3 z
theorem gOrder_mV {z : MS} {nv nj : Nat} (h : mV (kMs z) nv nj) : mV (kMs (gOrder z nv nj)) nv (njo (gOrder z nv nj)) := by
  have hA : mV (kMs (zA z)) nv nj := by rw [s_zA]; exact h
  unfold gOrder
  split
  · exact mV_to h
  split
  · split
    · exact gDoes_mV (z := uMat (zA z) (kMat (zA z) + sk (zA z) + 1)) _ hA
    · exact mV_to hA
  · exact mV_to hA
theorem gOrder_mT {z : MS} (nv nj : Nat) (hT : mT z) : mT (gOrder z nv nj) := by
  unfold gOrder
  split
  · exact ⟨hT.1, hT.2⟩
  rename_i q
  have hA := mT_zA hT q
  split
  · split
    · rename_i r
      have h1 := (look_in (mT_skip hA) (by rw [r]; decide)).1
      have h2 := gDoes_rest (uMat (zA z) (kMat (zA z) + sk (zA z) + 1)) nv nj (rLook z)
      refine ⟨?_, ?_⟩
      · show kMat (oD z nv nj).2 ≤ kMtyped (oD z nv nj).2
        rw [h2.2.2.2.2.2.1, h2.2.2.2.2.1]
        exact h1
      · show kMtyped (oD z nv nj).2 ≤ 100
        rw [h2.2.2.2.2.1]
        exact hA.2
    · exact ⟨(mT_skip hA).1, hA.2⟩
  · exact hA
theorem gOrder_at {z : MS} {nv nj : Nat} (hT : mT z) (h : kMfail (gOrder z nv nj) = -9) : kMat z + 1 ≤ kMat (gOrder z nv nj) := by
  unfold gOrder at h ⊢
  split at h
  · exact absurd h (nI_ne9 (mT_b hT))
  rename_i q
  rw [if_neg q]
  have hA := mT_zA hT q
  have h3 : kMat z + 1 ≤ kMat (zA z) := orA_at (oN z) 0 (oS z)
  split at h
  · rename_i g
    rw [if_pos g]
    split at h
    · rename_i r
      rw [if_pos r]
      have h2 := gDoes_rest (uMat (zA z) (kMat (zA z) + sk (zA z) + 1)) nv nj (rLook z)
      show kMat z + 1 ≤ kMat (oD z nv nj).2
      rw [h2.2.2.2.2.2.1]
      show kMat z + 1 ≤ kMat (zA z) + sk (zA z) + 1
      omega
    · exact absurd h (nI_ne9 (mT_b (mT_skip hA)))
  · rename_i g
    exact absurd h g
/-- the run -/
def gRnd (nv : Nat) (z : MS) : MS := if kMfail (gOrder z nv (njo z)) = -9 then gSkip (gOrder z nv (njo z)) else gOrder z nv (njo z)
def itQ (nv : Nat) (z : MS) : Nat → MS
  | 0 => z
  | i + 1 => gRnd nv (itQ nv z i)
abbrev pOn (z : MS) : Prop := ¬ nI (kMtyped z) ≤ nI (kMat z) ∧ kMfail z = -9
def rnF (nv : Nat) : Nat → MS → Nat × MS
  | 0, z => (0, z)
  | n + 1, z => if pOn z then ((rnF nv n (gRnd nv z)).1 + 1, (rnF nv n (gRnd nv z)).2) else (0, z)
def mQ (nv : Nat) (y z : MS) : Prop := mT z ∧ mV (kMs z) nv (njo z) ∧ mR3 y z
theorem mQ_rnd {nv : Nat} {y z : MS} (h : mQ nv y z) : mQ nv y (gRnd nv z) := by
  unfold gRnd
  split
  · exact ⟨mT_skip (gOrder_mT nv _ h.1), gOrder_mV h.2.1, mR3_tr h.2.2 (mR3_tr (gOrder_R3 z nv (njo z)) ⟨rfl, rfl, rfl, rfl, rfl⟩)⟩
  · exact ⟨gOrder_mT nv _ h.1, gOrder_mV h.2.1, mR3_tr h.2.2 (gOrder_R3 z nv (njo z))⟩
theorem itQ_mQ {nv : Nat} {y z : MS} (h : mQ nv y z) : ∀ i, mQ nv y (itQ nv z i)
  | 0 => h
  | i + 1 => mQ_rnd (itQ_mQ h i)
theorem rnd_at {nv : Nat} {z : MS} (hT : mT z) (h : kMfail (gRnd nv z) = -9) : kMat z + 1 ≤ kMat (gRnd nv z) := by
  unfold gRnd at h ⊢
  split at h
  · rename_i q
    rw [if_pos q]
    exact Nat.le_trans (gOrder_at hT q) (Nat.le_add_right _ _)
  · rename_i q
    exact absurd h q
theorem rn_no {nv n : Nat} {z : MS} (h : ¬ pOn z) : rnF nv n z = (0, z) := by
  cases n with
  | zero => rfl
  | succ n => unfold rnF; rw [if_neg h]
theorem rn_go {nv T i : Nat} {z : MS} {y : Nat × MS} (hi : i < T) (h : pOn (itQ nv z i)) (hv : y = ((rnF nv (T - i) (itQ nv z i)).1 + i, (rnF nv (T - i) (itQ nv z i)).2)) : y = ((rnF nv (T - (i + 1)) (itQ nv z (i + 1))).1 + (i + 1), (rnF nv (T - (i + 1)) (itQ nv z (i + 1))).2) := by
  rw [hv, show T - i = (T - (i + 1)) + 1 from by omega, rnF, if_pos h]
  show (_ + 1 + i, _) = (_ + (i + 1), _)
  rw [Nat.add_assoc, Nat.add_comm 1 i]
  rfl
abbrev zR (z : MS) : MS := uMfail (uMat (uMbef z (kMs z)) 0) (-9)
abbrev zS (z : MS) : MS := gSkip (zR z)
def zE (z : MS) (nv : Nat) : Nat × MS := rnF nv (kMtyped z) (zS z)
def gRun (z : MS) (nv : Nat) : Int32 × MS := if kMfail (zE z nv).2 = -9 then (nI (zE z nv).1, gActed (uMtyped (zE z nv).2 0) (nI (zE z nv).1)) else (-1000 - kMfail (zE z nv).2, uMs (zE z nv).2 (kMbef (zE z nv).2))
theorem zS_mQ {z : MS} {nv nj : Nat} (hV : mV (kMs z) nv nj) (ht : kMtyped z ≤ 100) : mQ nv (zS z) (zS z) := ⟨mT_skip (z := zR z) ⟨Nat.zero_le _, ht⟩, mV_to hV, rfl, rfl, rfl, rfl, rfl⟩
