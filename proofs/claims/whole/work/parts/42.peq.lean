/-! ===== the whole: class and reference ===== -/
theorem R2_cong {c : CS} {s t : Nat → Int32} (h : R2 c s) (e : ∀ k, k < 102 → t k = s k) : R2 c t := by
  have e1 : t 1 = s 1 := e 1 (by decide)
  have hn := h.1.1.2.2.2
  have c0 : ∀ i, i < knj c → mOf t (nI i) 2 = mOf s (nI i) 2 ∧ mOf t (nI i) 0 = mOf s (nI i) 0 := fun i hi => by
    have hi24 := rc_j h.1 hi
    rw [mOf_2 _ hi24, mOf_2 _ hi24, mOf_0 _ hi24, mOf_0 _ hi24]
    exact ⟨e _ (by omega), e _ (by omega)⟩
  have M : MI t (knv c) (knj c) := ⟨(e 0 (by decide)).trans h.1.1.1, h.1.1.2.1, (e 2 (by decide)).trans h.1.1.2.2.1, hn⟩
  refine ⟨⟨M, fun i hi => ?_, fun i hi => ?_, fun i hi => ?_, ?_, ?_, ?_, ?_, ?_⟩, ⟨fun i hi => ?_, fun i hi => ?_, ?_⟩, ⟨M, fun i hi => ?_⟩, ?_⟩
  · have hi24 := rc_j h.1 hi
    rw [e _ (by omega), e _ (by omega), e _ (by omega), e _ (by omega)]
    exact h.1.2.1 i hi
  · rw [e1]
    exact h.1.2.2.1 i hi
  · show kld c i = loF t (nI i) (knj c)
    rw [lo_cong (nI i) (knj c) c0]
    exact h.1.2.2.2.1 i hi
  · show knO c = opF t 6
    rw [op_s1 e1 6]
    exact h.1.2.2.2.2.1
  · show ksm c = alF t (knj c)
    rw [al_cong (knj c) c0]
    exact h.1.2.2.2.2.2.1
  · exact h.1.2.2.2.2.2.2.1.trans (e 3 (by decide)).symm
  · exact h.1.2.2.2.2.2.2.2.1.trans (e 4 (by decide)).symm
  · exact h.1.2.2.2.2.2.2.2.2.trans (e 5 (by decide)).symm
  · have hi24 := rc_j h.1 hi
    rw [e _ (by omega), e _ (by omega)]
    exact h.2.1.1 i hi
  · have hi24 := rc_j h.1 hi
    rw [e _ (by omega)]
    exact h.2.1.2.1 i hi
  · rw [e _ (by decide)]
    exact h.2.1.2.2
  · rw [(c0 i hi).1]
    exact (h.2.2.1.2 i hi).imp id (fun q => open_s1 e1 q)
  · rcases h.2.2.2 with q | q
    · exact Or.inl q
    · exact Or.inr (by rw [opC_s1 e1]; exact q)
def rH (v : HW) (z : MS) : Prop := kde v = kMkept z ∧ kde v ≤ 5 ∧ kfr v < 5 ∧ ∀ r, r < kde v → R2 (khs v ((kfr v + 5 - kde v + r) % 5)) (fun k => kMpast z (102 * r + k))
def rT (y : PS) (z : MS) : Prop := kPlen y = kMtyped z ∧ kMtyped z ≤ 100 ∧ ∀ i, i < kMtyped z → kPsigns y i = kMtext z i
def rR (c : CS) (v : HW) (y : PS) (z : MS) : Prop := R2 c (kMs z) ∧ rH v z ∧ rT y z
theorem rH_keep {v : HW} {z w : MS} {c : CS} {b : Nat → Int32} (h : rH v z) (hb : R2 c b) (ek : kMkept w = mKept (kMkept z)) (ep : kMpast w = mPast (kMpast z) b (kMkept z)) : rH (sKeep v c) w := by
  obtain ⟨h1, h2, h3, h4⟩ := h
  obtain ⟨d, ed⟩ : ∃ d, d = kde v := ⟨_, rfl⟩
  obtain ⟨f, ef⟩ : ∃ f, f = kfr v := ⟨_, rfl⟩
  have nd : kde (sKeep v c) = min (d + 1) 5 := by rw [ed]; rfl
  have nf : kfr (sKeep v c) = (f + 1) % 5 := by rw [ef]; rfl
  have ns : ∀ j, khs (sKeep v c) j = if j = f then c else khs v j := fun j => by rw [ef]; rfl
  rw [← ed] at h1 h2 h4
  rw [← ef] at h3 h4
  rw [← h1] at ek ep
  refine ⟨?_, ?_, ?_, fun r hr => ?_⟩
  · rw [nd, ek]
    unfold mKept
    by_cases g : d = 5
    · rw [if_pos g]
      omega
    · rw [if_neg g]
      omega
  · rw [nd]
    omega
  · rw [nf]
    omega
  · rw [nd] at hr
    rw [nd, nf, ns, ep]
    unfold mPast
    by_cases g : d = 5
    · rw [if_pos g]
      by_cases l : r = 4
      · rw [if_pos (by omega)]
        refine R2_cong hb (fun k hk => ?_)
        show wrF (shF (kMpast z) 408) b 408 102 (102 * r + k) = b k
        unfold wrF
        rw [if_pos ⟨by omega, by omega⟩, show 102 * r + k - 408 = k from by omega]
      · rw [if_neg (by omega)]
        have q := h4 (r + 1) (by omega)
        rw [show (f + 5 - d + (r + 1)) % 5 = ((f + 1) % 5 + 5 - min (d + 1) 5 + r) % 5 from by omega] at q
        refine R2_cong q (fun k hk => ?_)
        show wrF (shF (kMpast z) 408) b 408 102 (102 * r + k) = kMpast z (102 * (r + 1) + k)
        unfold wrF shF
        rw [if_neg (by omega), if_pos (by omega), show 102 * r + k + 102 = 102 * (r + 1) + k from by omega]
    · rw [if_neg g]
      by_cases l : r = d
      · rw [if_pos (by omega)]
        refine R2_cong hb (fun k hk => ?_)
        show wrF (kMpast z) b (102 * d) 102 (102 * r + k) = b k
        unfold wrF
        rw [if_pos ⟨by omega, by omega⟩, show 102 * r + k - 102 * d = k from by omega]
      · rw [if_neg (by omega)]
        have q := h4 r (by omega)
        rw [show (f + 5 - d + r) % 5 = ((f + 1) % 5 + 5 - min (d + 1) 5 + r) % 5 from by omega] at q
        refine R2_cong q (fun k hk => ?_)
        show wrF (kMpast z) b (102 * d) 102 (102 * r + k) = kMpast z (102 * r + k)
        unfold wrF
        rw [if_neg (by omega)]
theorem rR_same {c : CS} {v : HW} {y : PS} {z w : MS} (h : rR c v y z) (e1 : kMs w = kMs z) (e2 : kMpast w = kMpast z) (e3 : kMkept w = kMkept z) (e4 : kMtext w = kMtext z) (e5 : kMtyped w = kMtyped z) : rR c v y w := by
  refine ⟨?_, ?_, ?_⟩
  · rw [e1]
    exact h.1
  · unfold rH
    rw [e2, e3]
    exact h.2.1
  · unfold rT
    rw [e4, e5]
    exact h.2.2
theorem act_R {c c' : CS} {v : HW} {y : PS} {z w : MS} {r : Int32} (h : rR c v y z) (h2 : R2 c' (kMs w)) (eb : kMbef w = kMs z) (ep : kMpast w = kMpast z) (ek : kMkept w = kMkept z) (hT : rT y w) : rR c' (sRec v c r) y (gActed w r) := by
  unfold sRec gActed
  by_cases g : r < 0
  · rw [if_pos g, if_pos g]
    refine ⟨h2, ?_, hT⟩
    unfold rH
    rw [ep, ek]
    exact h.2.1
  · rw [if_neg g, if_neg g]
    refine ⟨h2, rH_keep h.2.1 h.1 ?_ ?_, hT⟩
    · show mKept (kMkept w) = _
      rw [ek]
    · show mPast (kMpast w) (kMbef w) (kMkept w) = _
      rw [ep, eb, ek]
theorem act_X {c c' : CS} {v : HW} {y : PS} {z : MS} {s' : Nat → Int32} {r r' : Int32} (h : rR c v y z) (e : r = r') (h2 : R2 c' s') : rR c' (sRec v c r) y (gActed (uMs (uMbef z (kMs z)) s') r') := by
  subst e
  exact act_R h h2 rfl rfl rfl h.2.2
theorem neg_R {c : CS} {v : HW} {y : PS} {z : MS} {r : Int32} (h : rR c v y z) (g : r < 0) : rR c (sRec v c r) y z := by
  unfold sRec
  rw [if_pos g]
  exact h
/-! the calls, one by one -/
theorem k_addServer {c : CS} {v : HW} {y : PS} {z : MS} (h : rR c v y z) : (fNewServer c).1 = (gAddServer z (knv c)).1 ∧ rR (fNewServer c).2 (sRec v c (fNewServer c).1) y (gAddServer z (knv c)).2 := by
  unfold fNewServer gAddServer
  have hv := h.1.1.1.2.1
  by_cases g : knv c < 6
  · have w1 : nI (knv c) < 6 := (nI_ltI (b := 6) (by omega) (by decide)).mpr g
    have w2 : ¬ nI (knv c) = 6 := fun e => by
      have := (nI_eq (a := knv c) (b := 6) (by omega) (by decide)).mp e
      omega
    rw [if_pos w1, if_neg w2]
    exact ⟨rfl, act_X h rfl (R2_srv h.1 g)⟩
  · have w1 : ¬ nI (knv c) < 6 := fun e => g ((nI_ltI (b := 6) (by omega) (by decide)).mp e)
    have w2 : nI (knv c) = 6 := by rw [show knv c = 6 from by omega]; rfl
    rw [if_neg w1, if_pos w2]
    exact ⟨rfl, neg_R h (by show (-3 : Int32) < 0; decide)⟩
theorem k_add {c : CS} {v : HW} {y : PS} {z : MS} (h : rR c v y z) (p q r : Int32) : (fNewJob c p q r).1 = (gAdds (kMs z) (knv c) (knj c) p q r).1 ∧ rR (fNewJob c p q r).2 (sRec v c (fNewJob c p q r).1) y (gAct z (gAdds (kMs z) (knv c) (knj c) p q r)) := by
  have E := add_eq h.1 p q r
  exact ⟨E.1, act_X h E.1 E.2⟩
theorem k_finish {c : CS} {v : HW} {y : PS} {z : MS} (h : rR c v y z) (p : Int32) : (fEnd c p).1 = (gFin (kMs z) (knj c) p).1 ∧ rR (fEnd c p).2 (sRec v c (fEnd c p).1) y (gAct z (gFin (kMs z) (knj c) p)) := by
  have E := end_eq h.1 p
  exact ⟨E.1, act_X h E.1 E.2⟩
theorem k_setBudget {c : CS} {v : HW} {y : PS} {z : MS} (h : rR c v y z) (p : Int32) : (fBudget c p).1 = (gSetBudget z p).1 ∧ rR (fBudget c p).2 (sRec v c (fBudget c p).1) y (gSetBudget z p).2 := by
  unfold fBudget gSetBudget
  by_cases g : pIn p 0 10000
  · rw [if_pos (show ¬ p < 0 ∧ p ≤ 10000 from ⟨g.1, Int32.not_lt.mp g.2⟩), if_pos g]
    have e : kbu c = kMs z 3 := h.1.1.2.2.2.2.2.2.1
    exact ⟨e, act_X h e (R2_bu h.1 p)⟩
  · rw [if_neg (show ¬ (¬ p < 0 ∧ p ≤ 10000) from fun q => g ⟨q.1, Int32.not_lt.mpr q.2⟩), if_neg g]
    exact ⟨rfl, neg_R h (by show (-1 : Int32) < 0; decide)⟩
theorem k_setFactor {c : CS} {v : HW} {y : PS} {z : MS} (h : rR c v y z) (p : Int32) : (fFactor c p).1 = (gSetFactor z (knj c) p).1 ∧ rR (fFactor c p).2 (sRec v c (fFactor c p).1) y (gSetFactor z (knj c) p).2 := by
  unfold fFactor gSetFactor
  by_cases g : pIn p 100 400
  · rw [if_pos (show ¬ p < 100 ∧ p ≤ 400 from ⟨g.1, Int32.not_lt.mp g.2⟩), if_pos g]
    obtain ⟨n, n1, n2, rfl⟩ := rng_of (lo := 100) (hi := 400) (by decide) g (by decide)
    have T := R2_fa h.1 n1 n2
    have e := rc_target T.1 T.2.2.1
    exact ⟨e, act_X h e T⟩
  · rw [if_neg (show ¬ (¬ p < 100 ∧ p ≤ 400) from fun q => g ⟨q.1, Int32.not_lt.mpr q.2⟩), if_neg g]
    exact ⟨rfl, neg_R h (by show (-1 : Int32) < 0; decide)⟩
theorem k_move {c : CS} {v : HW} {y : PS} {z : MS} (h : rR c v y z) (p q : Int32) : (fMove c p q).1 = (gMoves (kMs z) (knv c) (knj c) p q).1 ∧ rR (fMove c p q).2 (sRec v c (fMove c p q).1) y (gAct z (gMoves (kMs z) (knv c) (knj c) p q)) := by
  have E := move_eq h.1 p q
  exact ⟨E.1, act_X h E.1 E.2⟩
theorem k_exchange {c : CS} {v : HW} {y : PS} {z : MS} (h : rR c v y z) (p q : Int32) : (fExch c p q).1 = (gExch (kMs z) (knv c) (knj c) p q).1 ∧ rR (fExch c p q).2 (sRec v c (fExch c p q).1) y (gAct z (gExch (kMs z) (knv c) (knj c) p q)) := by
  have E := exch_eq h.1 p q
  exact ⟨E.1, act_X h E.1 E.2⟩
theorem k_ring {c : CS} {v : HW} {y : PS} {z : MS} (h : rR c v y z) (p q r : Int32) : (fRing c p q r).1 = (gRing (kMs z) (knv c) (knj c) p q r).1 ∧ rR (fRing c p q r).2 (sRec v c (fRing c p q r).1) y (gAct z (gRing (kMs z) (knv c) (knj c) p q r)) := by
  have E := ring_eq h.1 p q r
  exact ⟨E.1, act_X h E.1 E.2⟩
theorem k_even {c : CS} {v : HW} {y : PS} {z : MS} (h : rR c v y z) (x : SS) (p : Int32) : (fWalk c x p).1 = (gEvB (uMbef z (kMs z)) (knv c) (knj c) p).1 ∧ rR (fWalk c x p).2.1 (sRec v c (fWalk c x p).1) y (gActed (gEvB (uMbef z (kMs z)) (knv c) (knj c) p).2 (gEvB (uMbef z (kMs z)) (knv c) (knj c) p).1) := by
  have E := walk_eq (z := uMbef z (kMs z)) h.1 x p
  have R := gEvB_rest (uMbef z (kMs z)) (knv c) (knj c) p
  refine ⟨E.1, ?_⟩
  rw [E.1]
  refine act_R h E.2 R.2.1 R.1 R.2.2.1 ?_
  unfold rT
  rw [R.2.2.2.1, R.2.2.2.2.1]
  exact h.2.2
theorem k_close {c : CS} {v : HW} {y : PS} {z : MS} (h : rR c v y z) (p : Int32) : (fClose c p).1 = (gCloses (kMs z) (knv c) (knj c) p).1 ∧ rR (fClose c p).2 (sRec v c (fClose c p).1) y (gAct z (gCloses (kMs z) (knv c) (knj c) p)) := by
  have E := close_eq h.1 p
  exact ⟨E.1, act_X h E.1 E.2⟩
theorem k_open {c : CS} {v : HW} {y : PS} {z : MS} (h : rR c v y z) (p : Int32) : (fOpen c p).1 = (gOpen z (knv c) p).1 ∧ rR (fOpen c p).2 (sRec v c (fOpen c p).1) y (gOpen z (knv c) p).2 := by
  have E := open_eq h.1 p
  refine ⟨E.1, ?_⟩
  rcases E.2 with ⟨q | q, e, g⟩ | ⟨s', e, g⟩
  · rw [q, e]
    exact neg_R h g
  · rw [q, e]
    exact neg_R h g
  · rw [e]
    exact act_X h rfl g
theorem k_undo {c : CS} {v : HW} {y : PS} {z : MS} (h : rR c v y z) : (if 0 < kde v then nI (kde (sUndo v)) else -2) = rUndo z ∧ rR (cUndo v c) (sUndo v) y (gUndo z) := by
  obtain ⟨h1, h2, h3, h4⟩ := h.2.1
  unfold rUndo gUndo
  by_cases g : kMkept z = 0
  · have n : ¬ 0 < kde v := by omega
    rw [if_pos g, if_pos g, if_neg n]
    refine ⟨rfl, ?_⟩
    have e1 : cUndo v c = c := if_neg n
    have e2 : sUndo v = v := by
      unfold sUndo
      rw [if_neg n]
    rw [e1, e2]
    exact h
  · have p : 0 < kde v := by omega
    have e1 : cUndo v c = khs v ((kfr v + 4) % 5) := if_pos p
    have e2 : sUndo v = ((kde v - 1, (kfr v + 4) % 5), khs v) := by
      unfold sUndo
      rw [if_pos p]
    rw [if_neg g, if_neg g, if_pos p, e1, e2]
    refine ⟨?_, ?_, ⟨?_, ?_, ?_, fun r hr => ?_⟩, h.2.2⟩
    · show nI (kde v - 1) = _
      rw [h1]
    · have q := h4 (kde v - 1) (by omega)
      rw [show (kfr v + 5 - kde v + (kde v - 1)) % 5 = (kfr v + 4) % 5 from by omega] at q
      show R2 (khs v ((kfr v + 4) % 5)) (fun k => kMpast z (102 * (kMkept z - 1) + k))
      rw [← h1]
      exact q
    · show kde v - 1 = kMkept z - 1
      omega
    · show kde v - 1 ≤ 5
      omega
    · show (kfr v + 4) % 5 < 5
      omega
    · have hr : r < kde v - 1 := hr
      have q := h4 r (by omega)
      show R2 (khs v (((kfr v + 4) % 5 + 5 - (kde v - 1) + r) % 5)) (fun k => kMpast z (102 * r + k))
      rw [show ((kfr v + 4) % 5 + 5 - (kde v - 1) + r) % 5 = (kfr v + 5 - kde v + r) % 5 from by omega]
      exact q
theorem k_append {c : CS} {v : HW} {y : PS} {z : MS} (h : rR c v y z) (p : Int32) : (fAdd y p).1 = (if pIn p 1 255 then (if nI (kMtyped z) = 100 then -3 else nI (kMtyped z + 1)) else -1) ∧ rR c v (fAdd y p).2 (if pIn p 1 255 then (if nI (kMtyped z) = 100 then z else uMtyped (uMtext z (upd (kMtext z) (kMtyped z) p)) (kMtyped z + 1)) else z) := by
  obtain ⟨t1, t2, t3⟩ := h.2.2
  unfold fAdd
  by_cases g : pIn p 1 255
  · rw [if_pos (show ¬ p < 1 ∧ p ≤ 255 from ⟨g.1, Int32.not_lt.mp g.2⟩), if_pos g, if_pos g]
    by_cases l : kMtyped z < 100
    · have w1 : nI (kPlen y) < 100 := (nI_ltI (b := 100) (by omega) (by decide)).mpr (by omega)
      have w2 : ¬ nI (kMtyped z) = 100 := fun e => by
        have := (nI_eq (a := kMtyped z) (b := 100) (by omega) (by decide)).mp e
        omega
      rw [if_pos w1, if_neg w2, if_neg w2]
      refine ⟨?_, h.1, h.2.1, ?_, ?_, fun i hi => ?_⟩
      · show nI (kPlen y + 1) = _
        rw [t1]
      · show kPlen y + 1 = kMtyped z + 1
        rw [t1]
      · show kMtyped z + 1 ≤ 100
        omega
      · have hi : i < kMtyped z + 1 := hi
        show pT 100 (kPsigns y) (nI (kPlen y)) p i = upd (kMtext z) (kMtyped z) p i
        rw [t1, pT_nI l (by decide)]
        unfold upd
        by_cases e : i = kMtyped z
        · rw [if_pos e, if_pos e]
        · rw [if_neg e, if_neg e]
          exact t3 i (by omega)
    · have w1 : ¬ nI (kPlen y) < 100 := fun e => l (by
        have := (nI_ltI (b := 100) (by omega) (by decide)).mp e
        omega)
      have w2 : nI (kMtyped z) = 100 := by rw [show kMtyped z = 100 from by omega]; rfl
      rw [if_neg w1, if_pos w2, if_pos w2]
      exact ⟨rfl, h⟩
  · rw [if_neg (show ¬ (¬ p < 1 ∧ p ≤ 255) from fun q => g ⟨q.1, Int32.not_lt.mpr q.2⟩), if_neg g, if_neg g]
    exact ⟨rfl, h⟩
theorem k_clear {c : CS} {v : HW} {y : PS} {z : MS} (h : rR c v y z) : nI (kPlen y) = nI (kMtyped z) ∧ rR c v (uPlen y 0) (uMtyped z 0) :=
  ⟨by rw [h.2.2.1], h.1, h.2.1, rfl, Nat.zero_le _, fun i hi => absurd hi (Nat.not_lt_zero i)⟩
theorem k_run {c : CS} {v : HW} {y : PS} {z : MS} (h : rR c v y z) (x : SS) : zo (fOrders c x y) = (gRun z (knv c)).1 ∧ rR (if zo (fOrders c x y) < 0 then c else zc (fOrders c x y)) (sRec v c (zo (fOrders c x y))) (if zo (fOrders c x y) < 0 then zy (fOrders c x y) else uPlen (zy (fOrders c x y)) 0) (gRun z (knv c)).2 := by
  obtain ⟨t1, t2, t3⟩ := h.2.2
  have E := run_eq h.1 x t2 t1 t3
  have Y := orders_y c x y
  refine ⟨E.1, ?_⟩
  rcases E.2 with ⟨g, e1, e2, e3, e4, e5⟩ | ⟨g, E', e1, e2, e3, e4, e5⟩
  · rw [if_pos g, if_pos g]
    have q := rR_same h e1 e2 e3 e4 e5
    unfold sRec
    rw [if_pos g]
    refine ⟨q.1, q.2.1, ?_⟩
    unfold rT
    rw [Y.1, Y.2]
    exact q.2.2
  · rw [if_neg g, if_neg g, e1]
    have q : rR (zc (fOrders c x y)) (sRec v c (zo (fOrders c x y))) (uPlen (zy (fOrders c x y)) 0) (gActed (uMtyped E' 0) (zo (fOrders c x y))) := by
      have a := act_R (c' := zc (fOrders c x y)) (w := uMtyped E' 0) (y := uPlen y 0) (r := zo (fOrders c x y)) (z := uMtyped z 0) (v := v) (c := c) ⟨h.1, h.2.1, rfl, Nat.zero_le _, fun i hi => absurd hi (Nat.not_lt_zero i)⟩ e5 e2 e3 e4 ⟨rfl, Nat.zero_le _, fun i hi => absurd hi (Nat.not_lt_zero i)⟩
      refine ⟨a.1, a.2.1, ?_⟩
      have t := a.2.2
      unfold gActed at t ⊢
      rw [if_neg g] at t ⊢
      exact ⟨rfl, Nat.zero_le _, fun i hi => absurd hi (Nat.not_lt_zero i)⟩
    exact q
theorem k_count {c : CS} {v : HW} {y : PS} {z : MS} (h : rR c v y z) (w : Int32) : sCount c v y w = rMCount z (knv c) (knj c) w := by
  have C := h.1.1
  have S := h.1.2.1
  have V := h.1.2.2.1
  have hv := C.1.2.1
  have hn := C.1.2.2.2
  have e6 : aT 6 (kld c) (sEmpty c) = if nI (knv c) = 0 then 0 else mLoad (kMs z) (knj c) (mEmpty (kMs z) (knv c) (knj c)) := by
    rw [rc_empty C]
    by_cases g : knv c = 0
    · rw [if_pos (by rw [g]; rfl)]
      have e9 : mEmpty (kMs z) (knv c) (knj c) = -9 := by
        unfold mEmpty
        rw [g]
        rfl
      rw [e9]
      exact aT_out (Or.inl (by decide)) _
    · rw [if_neg (nI_ne0 (by omega) (by omega))]
      obtain ⟨e, he, ee, oe⟩ := em_pos (nj := knj c) hv (some_open hv (fun k a b => (C.2.2.1 k b).2 a) (h.1.2.2.2.resolve_left g))
      rw [ee]
      exact rc_ld C (by omega)
  have e9 : (if pEven c then (1 : Int32) else 0) = if pMEven (kMs z) (knv c) (knj c) then 1 else 0 := ite_iff (rc_even C S V) _ _
  unfold sCount rMCount
  rw [e6, e9, fin_up C (knj c) (Nat.le_refl _), rc_great C S V, rc_bound C V, rc_target C V, C.2.2.2.2.1, C.2.2.2.2.2.1, C.2.2.2.2.2.2.1, C.2.2.2.2.2.2.2.1, C.2.2.2.2.2.2.2.2, h.2.1.1, h.2.2.1]
theorem k_step {c : CS} {v : HW} {y : PS} {z : MS} (h : rR c v y z) (x : SS) (w : Int32) : sStep c x w = rMStep z (knv c) (knj c) w ∧ rR c v y (if pIn w 0 3 then gFind z (knv c) (knj c) else z) := by
  refine ⟨step_eq h.1 x w, ?_⟩
  split
  · have R := gFind_rest z (knv c) (knj c)
    exact rR_same h (gFind_s z (knv c) (knj c)) R.1 R.2.2.1 R.2.2.2.1 R.2.2.2.2.1
  · exact h
theorem k_plan {c : CS} {v : HW} {y : PS} {z : MS} (h : rR c v y z) (x : SS) (w : Int32) : sPlan c x w = rMPlan z (knv c) (knj c) w ∧ rR c v y (gMPlan z (knv c) (knj c) w) := by
  refine ⟨plan_eq h.1 x w, ?_⟩
  unfold gMPlan
  split
  · have R := evF_rest (knv c) (knj c) 30 (uMbef z (kMs z))
    exact rR_same h R.2.1 R.1 R.2.2.1 R.2.2.2.1 R.2.2.2.2.1
  · exact h
theorem k_fewest {c : CS} {v : HW} {y : PS} {z : MS} (h : rR c v y z) (w : Int32) : sFewest c w = rMFew (kMs z) (knv c) (knj c) w ∧ rR c v y (gMFew z (knv c) (knj c) w) := by
  refine ⟨few_eq h.1 w, ?_⟩
  unfold gMFew
  split
  · split
    · exact h
    · exact rR_same h rfl rfl rfl rfl rfl
  · exact h
theorem k_without {c : CS} {v : HW} {y : PS} {z : MS} (h : rR c v y z) (p : Int32) : sWithout c p = gWithout (kMs z) (knv c) (knj c) p ∧ rR c v y (if pHas (knv c) p ∧ pMOpen (kMs z) (knv c) p ∧ ¬ mOpens (kMs z) = 1 then uMbef z (kMs z) else z) := by
  refine ⟨without_eq h.1 p, ?_⟩
  split
  · exact rR_same h rfl rfl rfl rfl rfl
  · exact h
/-- what a contract asks -/
theorem k_pre {c : CS} {v : HW} {y : PS} {z : MS} (h : rR c v y z) : knv c ≤ 6 ∧ knj c ≤ 24 ∧ kde v ≤ 5 ∧ kfr v < 5 ∧ kPlen y ≤ 100 ∧ mV (kMs z) (knv c) (knj c) ∧ kMkept z ≤ 5 ∧ kMtyped z ≤ 100 :=
  ⟨h.1.1.1.2.1, h.1.1.1.2.2.2, h.2.1.2.1, h.2.1.2.2.1, by rw [h.2.2.1]; exact h.2.2.2.1, h.1.2.2.1, by rw [← h.2.1.1]; exact h.2.1.2.1, h.2.2.2.1⟩
