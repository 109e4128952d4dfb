/-! ===== the class's cluster and the reference's rows: the same state ===== -/
theorem ite_iff {α : Type} {P Q : Prop} [Decidable P] [Decidable Q] (h : P ↔ Q) (a b : α) : (if P then a else b) = if Q then a else b := by
  by_cases q : Q
  · rw [if_pos q, if_pos (h.mpr q)]
  · rw [if_neg q, if_neg (fun p => q (h.mp p))]
def rJ (c : CS) (s : Nat → Int32) : Prop := ∀ j, j < knj c → ksz c j = s (6 + 4 * j) ∧ kpr c j = s (6 + 4 * j + 1) ∧ kpl c j = s (6 + 4 * j + 2) ∧ kmv c j = s (6 + 4 * j + 3)
def rO (c : CS) (s : Nat → Int32) : Prop := ∀ k, k < 6 → kop c k = (if bt (s 1) k = true then 1 else 0) ∧ (knv c ≤ k → bt (s 1) k = false)
def rL (c : CS) (s : Nat → Int32) : Prop := ∀ k, k < 6 → kld c k = mLoad s (knj c) (nI k)
def rN (c : CS) (s : Nat → Int32) : Prop := knO c = mOpens s ∧ ksm c = mAll s (knj c) ∧ kbu c = s 3 ∧ kfa c = s 4 ∧ kmo c = s 5
def rC (c : CS) (s : Nat → Int32) : Prop := MI s (knv c) (knj c) ∧ rJ c s ∧ rO c s ∧ rL c s ∧ rN c s
/-- ranges of the rows -/
def rS (s : Nat → Int32) (nv nj : Nat) : Prop := (∀ j, j < nj → ∃ a b : Nat, 1 ≤ a ∧ a ≤ 1000 ∧ b ≤ 100 ∧ s (6 + 4 * j) = nI a ∧ s (6 + 4 * j + 1) = nI b) ∧ (∀ j, j < nj → s (6 + 4 * j + 2) = -9 ∨ ∃ k, k < nv ∧ s (6 + 4 * j + 2) = nI k) ∧ ∃ f : Nat, 100 ≤ f ∧ f ≤ 400 ∧ s 4 = nI f
theorem rc_j {c : CS} {s : Nat → Int32} (h : rC c s) {j : Nat} (hj : j < knj c) : j < 24 := Nat.lt_of_lt_of_le hj h.1.2.2.2
theorem rc_sz {c : CS} {s : Nat → Int32} (h : rC c s) {j : Nat} (hj : j < knj c) : aT 24 (ksz c) (nI j) = mOf s (nI j) 0 := by
  rw [aT_nI (rc_j h hj) (by decide), mOf_0 s (rc_j h hj)]
  exact (h.2.1 j hj).1
theorem rc_pr {c : CS} {s : Nat → Int32} (h : rC c s) {j : Nat} (hj : j < knj c) : aT 24 (kpr c) (nI j) = mOf s (nI j) 1 := by
  rw [aT_nI (rc_j h hj) (by decide), mOf_1 s (rc_j h hj)]
  exact (h.2.1 j hj).2.1
theorem rc_pl {c : CS} {s : Nat → Int32} (h : rC c s) {j : Nat} (hj : j < knj c) : aT 24 (kpl c) (nI j) = mOf s (nI j) 2 := by
  rw [aT_nI (rc_j h hj) (by decide), mOf_2 s (rc_j h hj)]
  exact (h.2.1 j hj).2.2.1
theorem rc_mv {c : CS} {s : Nat → Int32} (h : rC c s) {j : Nat} (hj : j < knj c) : aT 24 (kmv c) (nI j) = mOf s (nI j) 3 := by
  rw [aT_nI (rc_j h hj) (by decide), mOf_3 s (rc_j h hj)]
  exact (h.2.1 j hj).2.2.2
theorem rc_ld {c : CS} {s : Nat → Int32} (h : rC c s) {k : Nat} (hk : k < 6) : aT 6 (kld c) (nI k) = mLoad s (knj c) (nI k) := by
  rw [aT_nI hk (by decide)]
  exact h.2.2.2.1 k hk
theorem rc_op {c : CS} {s : Nat → Int32} (h : rC c s) {k : Nat} (hk : k < 6) : pOpen c (nI k) ↔ pMOpen s (knv c) (nI k) := by
  have e : aT 6 (kop c) (nI k) = kop c k := aT_nI hk (by decide) _
  have h3 := h.2.2.1 k hk
  constructor
  · intro q
    have q : aT 6 (kop c) (nI k) = 1 := q
    rw [e, h3.1] at q
    have b : bt (s 1) k = true := by
      cases hb : bt (s 1) k
      · rw [hb] at q
        exact absurd q (by decide)
      · rfl
    have hv : k < knv c := Nat.lt_of_not_le (fun g => by rw [h3.2 g] at b; cases b)
    exact ⟨has_ofN hv (by have := h.1.2.1; omega), (bit_on (by omega)).mpr b⟩
  · intro q
    show aT 6 (kop c) (nI k) = 1
    rw [e, h3.1, if_pos ((bit_on (by omega)).mp q.2)]
theorem rc_v {c : CS} {s : Nat → Int32} (h : rC c s) {k : Nat} (hk : k < knv c) : k < 6 := Nat.lt_of_lt_of_le hk h.1.2.1
/-! the full server -/
def isF (s : Nat → Int32) (nv nj a b : Nat) (r : Int32) : Prop := (r = -9 ∧ ∀ i, a ≤ i → i < b → ¬ pMOpen s nv (nI i)) ∨ ∃ i, a ≤ i ∧ i < b ∧ r = nI i ∧ pMOpen s nv (nI i) ∧ (∀ j, a ≤ j → j < b → pMOpen s nv (nI j) → mLoad s nj (nI j) ≤ mLoad s nj (nI i)) ∧ ∀ j, a ≤ j → j < i → pMOpen s nv (nI j) → mLoad s nj (nI j) < mLoad s nj (nI i)
theorem full_up {c : CS} {s : Nat → Int32} (h : rC c s) : ∀ k, k ≤ knv c → isF s (knv c) (knj c) 0 k (fullF c k)
  | 0, _ => Or.inl ⟨rfl, fun i _ b => absurd b (Nat.not_lt_zero i)⟩
  | k + 1, hk => by
    have ih := full_up h k (by omega)
    have h6 := rc_v h (show k < knv c by omega)
    have ho := rc_op h h6
    unfold fullF
    rcases ih with ⟨e, n⟩ | ⟨i, i0, i1, e, o, m1, m2⟩
    · by_cases g : aT 6 (kop c) (nI k) = 1
      · rw [if_pos ⟨g, Or.inl e⟩]
        refine Or.inr ⟨k, by omega, by omega, rfl, ho.mp g, fun j _ b oj => ?_, fun j _ b oj => absurd oj (n j (by omega) b)⟩
        by_cases d : j = k
        · subst d
          exact Int32.le_refl _
        · exact absurd oj (n j (by omega) (by omega))
      · rw [if_neg (fun q => g q.1)]
        refine Or.inl ⟨e, fun j _ b oj => ?_⟩
        by_cases d : j = k
        · subst d
          exact g (ho.mpr oj)
        · exact n j (by omega) (by omega) oj
    · have hi6 := rc_v h (show i < knv c by omega)
      have ei : aT 6 (kld c) (fullF c k) = mLoad s (knj c) (nI i) := by rw [e]; exact rc_ld h hi6
      have ek : aT 6 (kld c) (nI k) = mLoad s (knj c) (nI k) := rc_ld h h6
      by_cases g : aT 6 (kop c) (nI k) = 1 ∧ (fullF c k = -9 ∨ aT 6 (kld c) (fullF c k) < aT 6 (kld c) (nI k))
      · rw [if_pos g]
        have lt : mLoad s (knj c) (nI i) < mLoad s (knj c) (nI k) := by
          rw [← ei, ← ek]
          exact g.2.resolve_left (by rw [e]; exact st_ne9 (by omega))
        refine Or.inr ⟨k, by omega, by omega, rfl, ho.mp g.1, fun j _ b oj => ?_, fun j _ b oj => Int32.lt_of_le_of_lt (m1 j (by omega) b oj) lt⟩
        by_cases d : j = k
        · subst d
          exact Int32.le_refl _
        · exact Int32.le_of_lt (Int32.lt_of_le_of_lt (m1 j (by omega) (by omega) oj) lt)
      · rw [if_neg g]
        refine Or.inr ⟨i, i0, by omega, e, o, fun j _ b oj => ?_, m2⟩
        by_cases d : j = k
        · subst d
          refine Int32.not_lt.mp (fun lt => g ⟨ho.mpr oj, Or.inr ?_⟩)
          rw [ei, ek]
          exact lt
        · exact m1 j (by omega) (by omega) oj
theorem full_dn (s : Nat → Int32) {nv : Nat} (nj : Nat) (hv : nv ≤ 6) : ∀ m, m ≤ nv → isF s nv nj (nv - m) nv (mFuF s nv nj m)
  | 0, _ => Or.inl ⟨rfl, fun i a b => by omega⟩
  | m + 1, hm => by
    have ih := full_dn s nj hv m (by omega)
    obtain ⟨x, ex⟩ : ∃ x, x = nv - 1 - m := ⟨_, rfl⟩
    have e1 : nv - m = x + 1 := by omega
    have e2 : nv - (m + 1) = x := by omega
    rw [e1] at ih
    rw [e2]
    unfold mFuF
    rw [← ex]
    rcases ih with ⟨e, n⟩ | ⟨i, i0, i1, e, o, m1, m2⟩
    · by_cases g : pMOpen s nv (nI x)
      · rw [if_pos ⟨g, Or.inl e⟩]
        refine Or.inr ⟨x, by omega, by omega, rfl, g, fun j a b oj => ?_, fun j a b oj => by omega⟩
        by_cases d : j = x
        · subst d
          exact Int32.le_refl _
        · exact absurd oj (n j (by omega) b)
      · rw [if_neg (fun q => g q.1)]
        refine Or.inl ⟨e, fun j a b oj => ?_⟩
        by_cases d : j = x
        · subst d
          exact g oj
        · exact n j (by omega) b oj
    · by_cases g : pMOpen s nv (nI x) ∧ (mFuF s nv nj m = -9 ∨ ¬ mLoad s nj (nI x) < mLoad s nj (mFuF s nv nj m))
      · rw [if_pos g]
        have le : mLoad s nj (nI i) ≤ mLoad s nj (nI x) := by
          have q := g.2.resolve_left (by rw [e]; exact st_ne9 (by omega))
          rw [e] at q
          exact Int32.not_lt.mp q
        refine Or.inr ⟨x, by omega, by omega, rfl, g.1, fun j a b oj => ?_, fun j a b oj => by omega⟩
        by_cases d : j = x
        · subst d
          exact Int32.le_refl _
        · exact Int32.le_trans (m1 j (by omega) b oj) le
      · rw [if_neg g]
        have lx : pMOpen s nv (nI x) → mLoad s nj (nI x) < mLoad s nj (nI i) := fun ox => by
          refine Decidable.byContradiction (fun q => g ⟨ox, Or.inr ?_⟩)
          rw [e]
          exact q
        refine Or.inr ⟨i, by omega, i1, e, o, fun j a b oj => ?_, fun j a b oj => ?_⟩
        · by_cases d : j = x
          · subst d
            exact Int32.le_of_lt (lx oj)
          · exact m1 j (by omega) b oj
        · by_cases d : j = x
          · subst d
            exact lx oj
          · exact m2 j (by omega) b oj
theorem isF_one {s : Nat → Int32} {nv nj a b : Nat} {r t : Int32} (h : isF s nv nj a b r) (g : isF s nv nj a b t) : r = t := by
  rcases h with ⟨e, n⟩ | ⟨i, i0, i1, e, o, m1, m2⟩
  · rcases g with ⟨e', n'⟩ | ⟨i', i0', i1', e', o', m1', m2'⟩
    · rw [e, e']
    · exact absurd o' (n i' i0' i1')
  · rcases g with ⟨e', n'⟩ | ⟨i', i0', i1', e', o', m1', m2'⟩
    · exact absurd o (n' i i0 i1)
    · rcases Nat.lt_trichotomy i i' with q | q | q
      · have l1 := m2' i i0 q o
        have l2 := m1 i' i0' i1' o'
        exact absurd (Int32.lt_of_lt_of_le l1 l2) Int32.lt_irrefl
      · rw [e, e', q]
      · have l1 := m2 i' i0' q o'
        have l2 := m1' i i0 i1 o
        exact absurd (Int32.lt_of_lt_of_le l1 l2) Int32.lt_irrefl
theorem rc_full {c : CS} {s : Nat → Int32} (h : rC c s) : sFull c = mFull s (knv c) (knj c) := by
  have g := full_dn s (knj c) h.1.2.1 (knv c) (Nat.le_refl _)
  rw [Nat.sub_self] at g
  exact isF_one (full_up h (knv c) (Nat.le_refl _)) g
/-! the empty one -/
theorem em_form (s : Nat → Int32) (nv nj : Nat) : ∀ k, mEmF s nv nj k = -9 ∨ ∃ i, i < k ∧ mEmF s nv nj k = nI i
  | 0 => Or.inl rfl
  | k + 1 => by
    have ih := em_form s nv nj k
    unfold mEmF
    split
    · exact Or.inr ⟨k, by omega, rfl⟩
    · exact ih.imp id (fun ⟨i, a, b⟩ => ⟨i, by omega, b⟩)
theorem empty_up {c : CS} {s : Nat → Int32} (h : rC c s) : ∀ k, k ≤ knv c → emptyF c k = mEmF s (knv c) (knj c) k
  | 0, _ => rfl
  | k + 1, hk => by
    have ih := empty_up h k (by omega)
    have h6 := rc_v h (show k < knv c by omega)
    have ho := rc_op h h6
    unfold emptyF mEmF
    rw [ih]
    refine ite_iff ?_ _ _
    rw [rc_ld h h6]
    rcases em_form s (knv c) (knj c) k with e | ⟨i, hi, e⟩
    · rw [e]
      exact ⟨fun q => ⟨ho.mp q.1, Or.inl rfl⟩, fun q => ⟨ho.mpr q.1, Or.inl rfl⟩⟩
    · rw [e, rc_ld h (rc_v h (show i < knv c by omega))]
      exact ⟨fun q => ⟨ho.mp q.1, q.2⟩, fun q => ⟨ho.mpr q.1, q.2⟩⟩
theorem rc_empty {c : CS} {s : Nat → Int32} (h : rC c s) : sEmpty c = mEmpty s (knv c) (knj c) := empty_up h (knv c) (Nat.le_refl _)
/-! loads as numbers -/
def szN (s : Nat → Int32) (j : Nat) : Nat := (s (6 + 4 * j)).toNatClampNeg
def loN (s : Nat → Int32) (k : Int32) : Nat → Nat
  | 0 => 0
  | j + 1 => if mOf s (nI j) 2 = k then loN s k j + szN s j else loN s k j
theorem sz_nI {s : Nat → Int32} {nv nj : Nat} (h : rS s nv nj) {j : Nat} (hj : j < nj) : s (6 + 4 * j) = nI (szN s j) ∧ 1 ≤ szN s j ∧ szN s j ≤ 1000 := by
  obtain ⟨a, b, h1, h2, h3, h4, h5⟩ := h.1 j hj
  have e : szN s j = a := by
    unfold szN
    rw [h4, nI_clamp (by omega)]
  rw [e]
  exact ⟨h4, h1, h2⟩
theorem lo_nI {s : Nat → Int32} {nv nj : Nat} (h : rS s nv nj) (hn : nj ≤ 24) (k : Int32) : ∀ n, n ≤ nj → loF s k n = nI (loN s k n)
  | 0, _ => rfl
  | n + 1, hq => by
    have ih := lo_nI h hn k n (by omega)
    unfold loF loN
    rw [ih]
    by_cases g : mOf s (nI n) 2 = k
    · rw [if_pos g, if_pos g, mOf_0 s (by omega), (sz_nI h (by omega)).1, nI_add]
    · rw [if_neg g, if_neg g, Int32.add_zero]
theorem lo_le {s : Nat → Int32} {nv nj : Nat} (h : rS s nv nj) (k : Int32) : ∀ n, n ≤ nj → loN s k n ≤ 1000 * n
  | 0, _ => Nat.le_refl _
  | n + 1, hq => by
    have ih := lo_le h k n (by omega)
    have g := sz_nI h (show n < nj by omega)
    unfold loN
    split <;> omega
theorem lo_part {s : Nat → Int32} {k : Int32} {j : Nat} (hp : mOf s (nI j) 2 = k) : ∀ n, j < n → szN s j ≤ loN s k n
  | 0, h => absurd h (Nat.not_lt_zero j)
  | n + 1, h => by
    unfold loN
    by_cases e : j = n
    · subst e
      rw [if_pos hp]
      omega
    · have ih := lo_part hp n (by omega)
      split <;> omega
theorem ld_nI {s : Nat → Int32} {nv nj : Nat} (h : rS s nv nj) (hn : nj ≤ 24) (k : Int32) : mLoad s nj k = nI (loN s k nj) ∧ loN s k nj ≤ 24000 := by
  refine ⟨lo_nI h hn k nj (Nat.le_refl _), ?_⟩
  have := lo_le h k nj (Nat.le_refl _)
  omega
theorem lo_closed {s : Nat → Int32} {nv nj : Nat} (hV : mV s nv nj) {k : Int32} (hk : ¬ k = -9) (ho : ¬ pMOpen s nv k) : ∀ n, n ≤ nj → loF s k n = 0
  | 0, _ => rfl
  | n + 1, hn => by
    unfold loF
    rw [if_neg (fun e => ?_), lo_closed hV hk ho n (by omega)]
    · exact Int32.add_zero 0
    · rcases hV.2 n (by omega) with q | q
      · exact hk (e.symm.trans q)
      · exact ho (e ▸ q)
theorem gT_lub {a b x : Int32} (h : a ≤ x) (g : b ≤ x) : gT a b ≤ x := by
  unfold gT
  split
  · exact g
  · exact h
theorem gT_ge (a b : Int32) : b ≤ gT a b := by
  unfold gT
  split
  · exact Int32.le_refl b
  · rename_i q
    exact Int32.le_of_lt (Int32.not_le.mp q)
theorem gr_ge (s : Nat → Int32) (nj : Nat) {k : Nat} : ∀ n, k < n → mLoad s nj (nI k) ≤ grF s nj n
  | 0, h => absurd h (Nat.not_lt_zero k)
  | n + 1, h => by
    unfold grF
    by_cases e : k = n
    · subst e
      exact gT_ge _ _
    · exact Int32.le_trans (gr_ge s nj n (by omega)) (gT_le _ _)
theorem gr_le {s : Nat → Int32} {nj : Nat} {x : Int32} (h0 : 0 ≤ x) : ∀ n, (∀ k, k < n → mLoad s nj (nI k) ≤ x) → grF s nj n ≤ x
  | 0, _ => h0
  | n + 1, h => by
    unfold grF
    exact gT_lub (gr_le h0 n (fun k hk => h k (by omega))) (h n (by omega))
theorem rc_great {c : CS} {s : Nat → Int32} (h : rC c s) (hS : rS s (knv c) (knj c)) (hV : mV s (knv c) (knj c)) : sGreatest c = mGreat s (knv c) (knj c) := by
  have hv := h.1.2.1
  have hj := h.1.2.2.2
  unfold sGreatest mGreat
  rcases full_up h (knv c) (Nat.le_refl _) with ⟨e, n⟩ | ⟨i, i0, i1, e, o, m1, m2⟩
  · rw [show sFull c = -9 from e, aT_out (Or.inl (by decide))]
    exact (gr_done (knv c) (fun k hk => lo_done (no_open_done hV (fun i hi => n i (by omega) hi)) (st_ne9 (by omega)) (knj c) (Nat.le_refl _))).symm
  · rw [show sFull c = nI i from e, rc_ld h (by omega)]
    have hi0 : 0 ≤ mLoad s (knj c) (nI i) := by
      rw [(ld_nI hS hj _).1]
      exact nI_pos' (by have := (ld_nI hS hj (nI i)).2; omega)
    refine Int32.le_antisymm (gr_ge s (knj c) (knv c) i1) (gr_le hi0 (knv c) (fun k hk => ?_))
    by_cases ok : pMOpen s (knv c) (nI k)
    · exact m1 k (by omega) hk ok
    · rw [show mLoad s (knj c) (nI k) = 0 from lo_closed hV (st_ne9 (by omega)) ok (knj c) (Nat.le_refl _)]
      exact hi0
/-! the bound and the target -/
theorem op_ct (s : Nat → Int32) : ∀ k, k ≤ 31 → opF s k = nI (fb_ct (fun i => bt (s 1) i) k)
  | 0, _ => rfl
  | k + 1, hk => by
    unfold opF
    rw [op_ct s k (by omega), bit_v (s 1) (by omega), fb_ct_succ]
    by_cases g : bt (s 1) k = true
    · rw [if_pos g, if_pos g, nI_1]
    · rw [if_neg g, if_neg g, Int32.add_zero, Nat.add_zero]
abbrev opC (s : Nat → Int32) : Nat := fb_ct (fun i => bt (s 1) i) 6
theorem opens_ct (s : Nat → Int32) : mOpens s = nI (opC s) ∧ opC s ≤ 6 := ⟨op_ct s 6 (by decide), fb_ct_le _ 6⟩
theorem bnd_up {c : CS} {s : Nat → Int32} (h : rC c s) : ∀ n, n ≤ knj c → bndF c n = bdF s n
  | 0, _ => rfl
  | n + 1, hn => by
    have ih := bnd_up h n (by omega)
    unfold bndF bdF
    rw [ih, rc_pl h (by omega), rc_sz h (by omega)]
    by_cases g : mOf s (nI n) 2 = -9
    · rw [if_pos g, if_pos g]
    · rw [if_neg g, if_neg g]
      unfold gT
      by_cases q : bdF s n ≤ mOf s (nI n) 0
      · rw [if_pos q]
        by_cases r : bdF s n < mOf s (nI n) 0
        · rw [if_pos r]
        · rw [if_neg r]
          exact Int32.le_antisymm q (Int32.not_lt.mp r)
      · rw [if_neg q, if_neg (fun r => q (Int32.le_of_lt r))]
theorem no_open {s : Nat → Int32} {nv : Nat} (hv : nv ≤ 6) (h : mOpens s = 0) : ∀ i, i < nv → ¬ pMOpen s nv (nI i) := by
  intro i hi o
  rw [(opens_ct s).1] at h
  have h6 := (opens_ct s).2
  have e : opC s = 0 := (nI_eq (a := opC s) (b := 0) (by omega) (by decide)).mp h
  have q := fb_ct_zero.mp e i (by omega)
  rw [(bit_on (by omega)).mp o.2] at q
  cases q
theorem rc_bound {c : CS} {s : Nat → Int32} (h : rC c s) (hV : mV s (knv c) (knj c)) : sBound c = mBound s (knj c) := by
  unfold sBound mBound sAvg
  rw [bnd_up h (knj c) (Nat.le_refl _), h.2.2.2.2.1, h.2.2.2.2.2.1]
  by_cases g : mOpens s = 0
  · have q0 : mOpens s ≤ 0 := by rw [g]; decide
    rw [if_pos g, if_pos q0, bd_done (no_open_done hV (no_open h.1.2.1 g)) (knj c) (Nat.le_refl _)]
    all_goals rfl
  · have g2 : ¬ mOpens s ≤ 0 := by
      rw [(opens_ct s).1] at g ⊢
      have h6 := (opens_ct s).2
      exact nI_nle (Nat.pos_of_ne_zero (fun e => g (by rw [e]; rfl))) (by omega)
    rw [if_neg g, if_neg g2]
    unfold gT
    by_cases q : bdF s (knj c) ≤ (mAll s (knj c) + mOpens s - 1) / mOpens s
    · rw [if_pos q, if_neg (fun r => Int32.lt_irrefl (Int32.lt_of_lt_of_le r q))]
    · rw [if_neg q, if_pos (Int32.not_le.mp q)]
theorem rc_target {c : CS} {s : Nat → Int32} (h : rC c s) (hV : mV s (knv c) (knj c)) : sTarget c = mTarget s (knj c) := by
  unfold sTarget mTarget
  rw [rc_bound h hV, h.2.2.2.2.2.2.2.1]
theorem rc_even {c : CS} {s : Nat → Int32} (h : rC c s) (hS : rS s (knv c) (knj c)) (hV : mV s (knv c) (knj c)) : pEven c ↔ pMEven s (knv c) (knj c) := by
  show ¬ sTarget c < sGreatest c ↔ ¬ mTarget s (knj c) < mGreat s (knv c) (knj c)
  rw [rc_target h hV, rc_great h hS hV]
/-! counts and sets -/
theorem fin_up {c : CS} {s : Nat → Int32} (h : rC c s) : ∀ n, n ≤ knj c → finF c n = mCnF s (-9) n
  | 0, _ => rfl
  | n + 1, hn => by
    have ih := fin_up h n (by omega)
    have e := rc_pl h (show n < knj c by omega)
    unfold finF mCnF
    rw [ih]
    by_cases g : mOf s (nI n) 2 = -9
    · rw [if_pos g, if_pos (show pFin c (nI n) from e.trans g)]
    · rw [if_neg g, if_neg (fun q : pFin c (nI n) => g (e.symm.trans q)), Int32.add_zero]
theorem on_up {c : CS} {s : Nat → Int32} (h : rC c s) (k : Int32) : ∀ n, n ≤ knj c → onF c k n = mOnF s k n
  | 0, _ => rfl
  | n + 1, hn => by
    have ih := on_up h k n (by omega)
    unfold onF mOnF
    rw [ih, rc_pl h (show n < knj c by omega)]
    by_cases g : mOf s (nI n) 2 = k
    · rw [if_pos g, if_pos g]
    · rw [if_neg g, if_neg g, Int32.or_zero]
theorem pr_up {c : CS} {s : Nat → Int32} (h : rC c s) (k : Int32) : ∀ n, n ≤ knj c → prF c k n = mPrF s k n
  | 0, _ => rfl
  | n + 1, hn => by
    have ih := pr_up h k n (by omega)
    unfold prF mPrF
    rw [ih, rc_pl h (show n < knj c by omega)]
    by_cases g : mOf s (nI n) 2 = k
    · rw [if_pos g, if_pos g, rc_pr h (by omega)]
    · rw [if_neg g, if_neg g, Int32.add_zero]
