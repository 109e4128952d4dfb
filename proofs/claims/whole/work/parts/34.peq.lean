/-! ===== the order in which jobs leave ===== -/
def bA (s : Nat → Int32) (i : Nat) : Int := (mOf s (nI i) 0).toInt
def bB (s : Nat → Int32) (i : Nat) : Int := (mOf s (nI i) 1).toInt
def bfr (s : Nat → Int32) (i j : Nat) : Bool := decide (bA s j < bA s i ∨ (bA s i = bA s j ∧ (bB s i < bB s j ∨ (bB s i = bB s j ∧ i < j))))
theorem bfr_t {s : Nat → Int32} {i j : Nat} : bfr s i j = true ↔ (bA s j < bA s i ∨ (bA s i = bA s j ∧ (bB s i < bB s j ∨ (bB s i = bB s j ∧ i < j)))) := decide_eq_true_iff
theorem bfr_n (s : Nat → Int32) (i : Nat) : ¬ bfr s i i = true := by
  rw [bfr_t]
  omega
theorem bfr_a {s : Nat → Int32} {i j : Nat} (h : bfr s i j = true) : ¬ bfr s j i = true := by
  rw [bfr_t] at h ⊢
  omega
theorem bfr_tr {s : Nat → Int32} {i j k : Nat} (h : bfr s i j = true) (g : bfr s j k = true) : bfr s i k = true := by
  rw [bfr_t] at h g ⊢
  omega
theorem bfr_or {s : Nat → Int32} {i j : Nat} (h : i ≠ j) : bfr s i j = true ∨ bfr s j i = true := by
  rw [bfr_t, bfr_t]
  omega
def onS (s : Nat → Int32) (k : Int32) (j : Nat) : Bool := decide (mOf s (nI j) 2 = k)
theorem onS_t {s : Nat → Int32} {k : Int32} {j : Nat} : onS s k j = true ↔ mOf s (nI j) 2 = k := decide_eq_true_iff
abbrev rk (s : Nat → Int32) (nj : Nat) (k : Int32) (j : Nat) : Nat := fb_ct (fun o => onS s k o && bfr s o j) nj
theorem bf_iff {c : CS} {s : Nat → Int32} (h : rC c s) {i j : Nat} (hi : i < knj c) (hj : j < knj c) : pBefore c (nI i) (nI j) ↔ bfr s i j = true := by
  show (if aT 24 (ksz c) (nI i) = aT 24 (ksz c) (nI j) then (if aT 24 (kpr c) (nI i) = aT 24 (kpr c) (nI j) then nI i < nI j else aT 24 (kpr c) (nI i) < aT 24 (kpr c) (nI j)) else aT 24 (ksz c) (nI j) < aT 24 (ksz c) (nI i)) ↔ _
  have i24 := rc_j h hi
  have j24 := rc_j h hj
  rw [rc_sz h hi, rc_sz h hj, rc_pr h hi, rc_pr h hj, bfr_t]
  unfold bA bB
  by_cases e1 : mOf s (nI i) 0 = mOf s (nI j) 0
  · rw [if_pos e1]
    have x1 : (mOf s (nI i) 0).toInt = (mOf s (nI j) 0).toInt := congrArg Int32.toInt e1
    by_cases e2 : mOf s (nI i) 1 = mOf s (nI j) 1
    · rw [if_pos e2]
      have x2 : (mOf s (nI i) 1).toInt = (mOf s (nI j) 1).toInt := congrArg Int32.toInt e2
      rw [nI_ltI (by omega) (by omega)]
      omega
    · rw [if_neg e2, Int32.lt_iff_toInt_lt]
      have x2 : ¬ (mOf s (nI i) 1).toInt = (mOf s (nI j) 1).toInt := fun q => e2 (Int32.toInt_inj.mp q)
      omega
  · rw [if_neg e1, Int32.lt_iff_toInt_lt]
    have x1 : ¬ (mOf s (nI i) 0).toInt = (mOf s (nI j) 0).toInt := fun q => e1 (Int32.toInt_inj.mp q)
    omega
theorem bfF_ct {c : CS} {s : Nat → Int32} (h : rC c s) {j : Nat} (hj : j < knj c) : ∀ n, n ≤ knj c → bfF c (nI j) n = nI (fb_ct (fun o => onS s (mOf s (nI j) 2) o && bfr s o j) n)
  | 0, _ => rfl
  | n + 1, hn => by
    have ih := bfF_ct h hj n (by omega)
    unfold bfF
    rw [ih, rc_pl h hj, rc_pl h (show n < knj c by omega), fb_ct_succ]
    have b := bf_iff h (show n < knj c by omega) hj
    by_cases g : mOf s (nI n) 2 = mOf s (nI j) 2 ∧ bfr s n j = true
    · rw [if_pos (show mOf s (nI n) 2 = mOf s (nI j) 2 ∧ pBefore c (nI n) (nI j) from ⟨g.1, b.mpr g.2⟩), if_pos (by rw [onS_t.mpr g.1, g.2]; rfl), nI_1]
    · rw [if_neg (show ¬ (mOf s (nI n) 2 = mOf s (nI j) 2 ∧ pBefore c (nI n) (nI j)) from fun q => g ⟨q.1, b.mp q.2⟩), if_neg (fun q => by
        rw [Bool.and_eq_true] at q
        exact g ⟨onS_t.mp q.1, q.2⟩), Nat.add_zero]
/-- the first to leave of those that are not gone -/
def isL (s : Nat → Int32) (k gone : Int32) (n : Nat) (r : Int32) : Prop := (r = -9 ∧ ∀ o, o < n → onS s k o = true → bt gone o = true) ∨ ∃ j, j < n ∧ r = nI j ∧ onS s k j = true ∧ bt gone j = false ∧ ∀ o, o < n → onS s k o = true → bt gone o = false → o ≠ j → bfr s j o = true
theorem ml_is (s : Nat → Int32) (k gone : Int32) : ∀ n, n ≤ 24 → isL s k gone n (mlF s k gone n)
  | 0, _ => Or.inl ⟨rfl, fun o h => absurd h (Nat.not_lt_zero o)⟩
  | n + 1, hn => by
    have ih := ml_is s k gone n (by omega)
    have hb : ((gone >>> (nI n &&& 31)) &&& 1) = 0 ↔ bt gone n = false := bit_off (by omega)
    unfold mlF
    by_cases g : mOf s (nI n) 2 = k ∧ ((gone >>> (nI n &&& 31)) &&& 1) = 0
    · rw [if_pos g]
      have gf : bt gone n = false := hb.mp g.2
      have go : onS s k n = true := onS_t.mpr g.1
      rcases ih with ⟨e, a⟩ | ⟨j, hj, e, oj, fj, m⟩
      · rw [if_pos (Or.inl e)]
        refine Or.inr ⟨n, by omega, rfl, go, gf, fun o ho oo fo ne => ?_⟩
        have := a o (by omega) oo
        rw [fo] at this
        cases this
      · have key : (mlF s k gone n = -9 ∨ mOf s (mlF s k gone n) 0 < mOf s (nI n) 0 ∨ (mOf s (nI n) 0 = mOf s (mlF s k gone n) 0 ∧ mOf s (nI n) 1 < mOf s (mlF s k gone n) 1)) ↔ bfr s n j = true := by
          rw [e, bfr_t]
          unfold bA bB
          have j9 := st_ne9 (n := j) (by omega)
          rw [Int32.lt_iff_toInt_lt, Int32.lt_iff_toInt_lt, ← Int32.toInt_inj (x := mOf s (nI n) 0)]
          constructor
          · rintro (q | q | q)
            · exact absurd q j9
            · exact Or.inl q
            · exact Or.inr ⟨q.1, Or.inl q.2⟩
          · rintro (q | ⟨q, r | r⟩)
            · exact Or.inr (Or.inl q)
            · exact Or.inr (Or.inr ⟨q, r⟩)
            · omega
        by_cases q : bfr s n j = true
        · rw [if_pos (key.mpr q)]
          refine Or.inr ⟨n, by omega, rfl, go, gf, fun o ho oo fo ne => ?_⟩
          by_cases d : o = j
          · rw [d]
            exact q
          · exact bfr_tr q (m o (by omega) oo fo d)
        · rw [if_neg (fun r => q (key.mp r))]
          refine Or.inr ⟨j, by omega, e, oj, fj, fun o ho oo fo ne => ?_⟩
          by_cases d : o = n
          · rw [d]
            exact (bfr_or (show n ≠ j by omega)).resolve_left q
          · exact m o (by omega) oo fo ne
    · rw [if_neg g]
      have ng : onS s k n = true → bt gone n = true := fun oo => by
        cases q : bt gone n
        · exact absurd ⟨onS_t.mp oo, hb.mpr q⟩ g
        · rfl
      rcases ih with ⟨e, a⟩ | ⟨j, hj, e, oj, fj, m⟩
      · refine Or.inl ⟨e, fun o ho oo => ?_⟩
        by_cases d : o = n
        · rw [d] at oo ⊢
          exact ng oo
        · exact a o (by omega) oo
      · refine Or.inr ⟨j, by omega, e, oj, fj, fun o ho oo fo ne => ?_⟩
        by_cases d : o = n
        · rw [d] at oo fo
          rw [ng oo] at fo
          cases fo
        · exact m o (by omega) oo fo ne
/-- so many are gone, and they are the first ones -/
def isG (s : Nat → Int32) (nj : Nat) (k : Int32) (i : Nat) (gone : Int32) : Prop := fb_ct (fun o => onS s k o && bt gone o) nj = i ∧ ∀ o o', o < nj → o' < nj → onS s k o = true → onS s k o' = true → bt gone o = true → bt gone o' = false → bfr s o o' = true
theorem isG_0 (s : Nat → Int32) (nj : Nat) (k : Int32) : isG s nj k 0 0 := by
  refine ⟨fb_ct_zero.mpr (fun o _ => by rw [b_0, Bool.and_false]), fun o o' _ _ _ _ q _ => ?_⟩
  rw [b_0] at q
  cases q
theorem rk_next {s : Nat → Int32} {nj : Nat} {k : Int32} {i : Nat} {gone : Int32} (G : isG s nj k i gone) {j : Nat} (hj : j < nj) (oj : onS s k j = true) (fj : bt gone j = false) (m : ∀ o, o < nj → onS s k o = true → bt gone o = false → o ≠ j → bfr s j o = true) : rk s nj k j = i := by
  rw [← G.1]
  refine fb_ct_cong (fun o ho => ?_)
  cases oo : onS s k o
  · rfl
  · rw [Bool.true_and, Bool.true_and]
    cases go : bt gone o
    · cases q : bfr s o j
      · rfl
      · by_cases d : o = j
        · rw [d] at q
          exact absurd q (bfr_n s j)
        · exact absurd q (bfr_a (m o ho oo go d))
    · exact G.2 o j ho hj oo oj go fj
theorem isG_next {s : Nat → Int32} {nj : Nat} (hn : nj ≤ 24) {k : Int32} {i : Nat} {gone : Int32} (G : isG s nj k i gone) {j : Nat} (hj : j < nj) (oj : onS s k j = true) (fj : bt gone j = false) (m : ∀ o, o < nj → onS s k o = true → bt gone o = false → o ≠ j → bfr s j o = true) : isG s nj k (i + 1) (gone ||| (1 <<< (nI j &&& 31))) := by
  have bs : ∀ o, o < nj → bt (gone ||| ((1 : Int32) <<< (nI j &&& 31))) o = (bt gone o || decide (o = j)) := fun o ho => bt_set gone (by omega) (by omega)
  refine ⟨?_, fun o o' ho ho' oo oo' go go' => ?_⟩
  · have u := fb_ct_upd (fun o => onS s k o && bt gone o) true (i := j) (n := nj) hj
    have e : fb_ct (fun o => onS s k o && bt (gone ||| ((1 : Int32) <<< (nI j &&& 31))) o) nj = fb_ct (fun o => if o = j then true else onS s k o && bt gone o) nj := fb_ct_cong (fun o ho => by
      rw [bs o ho]
      by_cases d : o = j
      · rw [if_pos d, decide_eq_true d, Bool.or_true, Bool.and_true, d]
        exact oj
      · rw [if_neg d, decide_eq_false d, Bool.or_false])
    rw [e]
    simp only [fj, Bool.and_false] at u
    rw [G.1] at u
    simpa using u
  · rw [bs o ho] at go
    rw [bs o' ho'] at go'
    rw [Bool.or_eq_false_iff] at go'
    have d' : o' ≠ j := of_decide_eq_false go'.2
    cases g : bt gone o
    · rw [g, Bool.false_or] at go
      have d : o = j := of_decide_eq_true go
      rw [d]
      exact m o' ho' oo' go'.1 d'
    · exact G.2 o o' ho ho' oo oo' g go'.1
theorem rk_lt {s : Nat → Int32} {nj : Nat} {k : Int32} {a b : Nat} (ha : a < nj) (oa : onS s k a = true) (q : bfr s a b = true) : rk s nj k a < rk s nj k b := by
  have u := fb_ct_upd (fun o => onS s k o && bfr s o b) false (i := a) (n := nj) ha
  simp only [oa, q, Bool.and_true, if_true] at u
  have sub : rk s nj k a ≤ fb_ct (fun o => if o = a then false else onS s k o && bfr s o b) nj := fb_ct_sub (fun o ho w => by
    rw [Bool.and_eq_true] at w
    by_cases d : o = a
    · rw [d] at w
      exact absurd w.2 (bfr_n s a)
    · simp only [if_neg d]
      rw [w.1, bfr_tr w.2 q]
      rfl)
  have u2 : fb_ct (fun o => if o = a then false else onS s k o && bfr s o b) nj + 1 = rk s nj k b := by simpa using u
  omega
theorem rk_one {s : Nat → Int32} {nj : Nat} {k : Int32} {a b : Nat} (ha : a < nj) (hb : b < nj) (oa : onS s k a = true) (ob : onS s k b = true) (e : rk s nj k a = rk s nj k b) : a = b := by
  refine Decidable.byContradiction (fun d => ?_)
  rcases bfr_or d with q | q
  · have := rk_lt (nj := nj) (k := k) ha oa q
    omega
  · have := rk_lt (nj := nj) (k := k) hb ob q
    omega
theorem rk_all {s : Nat → Int32} {nj : Nat} {k : Int32} {i : Nat} {gone : Int32} (G : isG s nj k i gone) (a : ∀ o, o < nj → onS s k o = true → bt gone o = true) {j : Nat} (hj : j < nj) (oj : onS s k j = true) : rk s nj k j < i := by
  have u := fb_ct_upd (fun o => onS s k o && bt gone o) false (i := j) (n := nj) hj
  simp only [oj, a j hj oj, Bool.and_true, if_true] at u
  rw [G.1] at u
  have sub : rk s nj k j ≤ fb_ct (fun o => if o = j then false else onS s k o && bt gone o) nj := fb_ct_sub (fun o ho w => by
    rw [Bool.and_eq_true] at w
    by_cases d : o = j
    · rw [d] at w
      exact absurd w.2 (bfr_n s j)
    · simp only [if_neg d]
      rw [w.1, a o ho w.1]
      rfl)
  have u2 : fb_ct (fun o => if o = j then false else onS s k o && bt gone o) nj + 1 = i := by simpa using u
  omega
def isR (s : Nat → Int32) (nj : Nat) (k : Int32) (m : Nat) (r : Int32) : Prop := (r = -9 ∧ ∀ j, j < nj → onS s k j = true → rk s nj k j ≠ m) ∨ ∃ j, j < nj ∧ r = nI j ∧ onS s k j = true ∧ rk s nj k j = m
theorem isR_one {s : Nat → Int32} {nj : Nat} {k : Int32} {m : Nat} {r t : Int32} (h : isR s nj k m r) (g : isR s nj k m t) : r = t := by
  rcases h with ⟨e, a⟩ | ⟨j, hj, e, oj, q⟩
  · rcases g with ⟨e', a'⟩ | ⟨j', hj', e', oj', q'⟩
    · rw [e, e']
    · exact absurd q' (a j' hj' oj')
  · rcases g with ⟨e', a'⟩ | ⟨j', hj', e', oj', q'⟩
    · exact absurd q (a' j hj oj)
    · rw [e, e', rk_one hj hj' oj oj' (q.trans q'.symm)]
theorem lw_is {s : Nat → Int32} {nj : Nat} (hn : nj ≤ 24) (k : Int32) : ∀ (n i : Nat) (gone : Int32), isG s nj k i gone → isR s nj k (i + n) (lwF s nj k n gone)
  | 0, i, gone, G => by
    show isR s nj k i (mlF s k gone nj)
    rcases ml_is s k gone nj hn with ⟨e, a⟩ | ⟨j, hj, e, oj, fj, m⟩
    · refine Or.inl ⟨e, fun j hj oj q => ?_⟩
      have := rk_all G a hj oj
      omega
    · exact Or.inr ⟨j, hj, e, oj, rk_next G hj oj fj m⟩
  | n + 1, i, gone, G => by
    unfold lwF
    rcases ml_is s k gone nj hn with ⟨e, a⟩ | ⟨j, hj, e, oj, fj, m⟩
    · rw [if_pos (show mLeaver s nj k gone = -9 from e)]
      refine Or.inl ⟨rfl, fun j hj oj q => ?_⟩
      have := rk_all G a hj oj
      omega
    · have e2 : mLeaver s nj k gone = nI j := e
      rw [if_neg (by rw [e2]; exact st_ne9 (by omega)), e2]
      have W := lw_is hn k n (i + 1) _ (isG_next hn G hj oj fj m)
      rwa [show i + 1 + n = i + (n + 1) from by omega] at W
theorem lv_is {c : CS} {s : Nat → Int32} (h : rC c s) (k : Int32) {m : Nat} (hm : m < 2 ^ 31) : ∀ n i, i + n = knj c → (lvF c k (nI m) n i = -9 ∧ ∀ j, i ≤ j → j < knj c → onS s k j = true → rk s (knj c) k j ≠ m) ∨ ∃ j, j < knj c ∧ lvF c k (nI m) n i = nI j ∧ onS s k j = true ∧ rk s (knj c) k j = m
  | 0, i, e => Or.inl ⟨rfl, fun j a b => by omega⟩
  | n + 1, i, e => by
    have hi : i < knj c := by omega
    have hn := h.1.2.2.2
    have hr : sBf c (nI i) = nI (fb_ct (fun o => onS s (mOf s (nI i) 2) o && bfr s o i) (knj c)) := bfF_ct h hi (knj c) (Nat.le_refl _)
    have hl : fb_ct (fun o => onS s (mOf s (nI i) 2) o && bfr s o i) (knj c) ≤ knj c := fb_ct_le _ _
    unfold lvF
    rw [rc_pl h hi, hr]
    by_cases g : mOf s (nI i) 2 = k ∧ rk s (knj c) k i = m
    · have g1 := g.1
      have g2 := g.2
      rw [if_pos ⟨g1, by rw [g1]; exact congrArg nI g2⟩]
      exact Or.inr ⟨i, hi, rfl, onS_t.mpr g1, g2⟩
    · rw [if_neg (fun q => g ⟨q.1, by
        have q2 := q.2
        rw [q.1] at q2
        rw [q.1] at hl
        have hl2 : rk s (knj c) k i < 2 ^ 31 := Nat.lt_of_le_of_lt hl (by omega)
        exact (nI_eq hl2 hm).mp q2⟩)]
      rcases lv_is h k hm n (i + 1) (by omega) with ⟨e2, a⟩ | w
      · refine Or.inl ⟨e2, fun j ij jn oj q => ?_⟩
        by_cases d : j = i
        · rw [d] at oj q
          exact g ⟨onS_t.mp oj, q⟩
        · exact a j (by omega) jn oj q
      · exact Or.inr w
theorem lv_isR {c : CS} {s : Nat → Int32} (h : rC c s) (k : Int32) {m : Nat} (hm : m < 2 ^ 31) : isR s (knj c) k m (sLeaving c k (nI m)) := by
  rcases lv_is h k hm (knj c) 0 (by omega) with ⟨e, a⟩ | w
  · exact Or.inl ⟨e, fun j hj oj => a j (Nat.zero_le j) hj oj⟩
  · exact Or.inr w
theorem leaver0 {c : CS} {s : Nat → Int32} (h : rC c s) (k : Int32) : sLeaving c k 0 = mLeaver s (knj c) k 0 :=
  isR_one (lv_isR h k (m := 0) (by decide)) (lw_is h.1.2.2.2 k 0 0 0 (isG_0 s (knj c) k))
theorem leav_eq {c : CS} {s : Nat → Int32} (h : rC c s) (p x : Int32) : (if pHasS c p ∧ ¬ x < 0 then sLeaving c p x else -1) = rMLeav s (knv c) (knj c) p x := by
  unfold rMLeav
  by_cases g : pHas (knv c) p ∧ 0 ≤ x
  · rw [if_pos (show pHasS c p ∧ ¬ x < 0 from ⟨g.1, Int32.not_lt.mpr g.2⟩), if_pos g]
    obtain ⟨m1, m2⟩ := pos_nI g.2
    have W := lw_is h.1.2.2.2 p x.toNatClampNeg 0 0 (isG_0 s (knj c) p)
    rw [Nat.zero_add] at W
    have V := lv_isR h p m1
    rw [← m2] at V
    exact isR_one V W
  · rw [if_neg (show ¬ (pHasS c p ∧ ¬ x < 0) from fun q => g ⟨q.1, Int32.not_lt.mp q.2⟩), if_neg g]
