/-! ===== the pure side: what a cluster holds, as naturals ===== -/
theorem ne9 {n : Nat} (h : n < 2 ^ 31) : ¬ nI n = -9 := by
  intro e
  have h2 := nI_pos (n := n) h
  rw [e] at h2
  exact h2 (by decide)
def su (f : Nat → Nat) : Nat → Nat
  | 0 => 0
  | n + 1 => su f n + f n
theorem su_cong {f g : Nat → Nat} : ∀ {n : Nat}, (∀ j, j < n → f j = g j) → su f n = su g n
  | 0, _ => rfl
  | n + 1, h => by
    show su f n + f n = su g n + g n
    rw [su_cong (fun j hj => h j (Nat.lt_succ_of_lt hj)), h n (Nat.lt_succ_self n)]
theorem su_le {f g : Nat → Nat} : ∀ {n : Nat}, (∀ j, j < n → f j ≤ g j) → su f n ≤ su g n
  | 0, _ => Nat.le_refl _
  | n + 1, h => Nat.add_le_add (su_le (fun j hj => h j (Nat.lt_succ_of_lt hj))) (h n (Nat.lt_succ_self n))
theorem su_zero {f : Nat → Nat} : ∀ {n : Nat}, (∀ j, j < n → f j = 0) → su f n = 0
  | 0, _ => rfl
  | n + 1, h => by
    show su f n + f n = 0
    rw [su_zero (fun j hj => h j (Nat.lt_succ_of_lt hj)), h n (Nat.lt_succ_self n)]
theorem su_pt {f : Nat → Nat} : ∀ {n j : Nat}, j < n → f j ≤ su f n
  | 0, j, h => absurd h (Nat.not_lt_zero j)
  | n + 1, j, h => by
    show f j ≤ su f n + f n
    by_cases e : j = n
    · subst e
      omega
    · have := su_pt (f := f) (n := n) (j := j) (by omega)
      omega
theorem su_bd {f : Nat → Nat} {B : Nat} : ∀ {n : Nat}, (∀ j, j < n → f j ≤ B) → su f n ≤ B * n
  | 0, _ => Nat.le_refl _
  | n + 1, h => by
    show su f n + f n ≤ B * (n + 1)
    have h1 := su_bd (f := f) (n := n) (fun j hj => h j (Nat.lt_succ_of_lt hj))
    have h2 := h n (Nat.lt_succ_self n)
    rw [Nat.mul_succ]
    omega
theorem su_add (f g : Nat → Nat) : ∀ n, su (fun j => f j + g j) n = su f n + su g n
  | 0 => rfl
  | n + 1 => by
    show su (fun j => f j + g j) n + (f n + g n) = (su f n + f n) + (su g n + g n)
    rw [su_add f g n]
    omega
theorem su_pos {f : Nat → Nat} : ∀ {n : Nat}, 0 < su f n → ∃ j, j < n ∧ 0 < f j
  | 0, h => absurd h (Nat.lt_irrefl 0)
  | n + 1, h => by
    by_cases e : 0 < f n
    · exact ⟨n, Nat.lt_succ_self n, e⟩
    · have h : 0 < su f n + f n := h
      obtain ⟨j, a, b⟩ := su_pos (f := f) (n := n) (by omega)
      exact ⟨j, Nat.lt_succ_of_lt a, b⟩
theorem su_chg {f g : Nat → Nat} {j : Nat} : ∀ {n : Nat}, j < n → (∀ i, i < n → i ≠ j → f i = g i) → su f n + g j = su g n + f j
  | 0, h, _ => absurd h (Nat.not_lt_zero j)
  | n + 1, h, hs => by
    show (su f n + f n) + g j = (su g n + g n) + f j
    by_cases e : j = n
    · subst e
      have : su f j = su g j := su_cong (fun i hi => hs i (Nat.lt_succ_of_lt hi) (Nat.ne_of_lt hi))
      omega
    · have h1 := su_chg (n := n) (by omega) (fun i hi => hs i (Nat.lt_succ_of_lt hi))
      have h2 := hs n (Nat.lt_succ_self n) (Ne.symm e)
      omega
theorem su_two {f : Nat → Nat} {i j : Nat} : ∀ {n : Nat}, i < n → j < n → i ≠ j → f i + f j ≤ su f n
  | 0, h, _, _ => absurd h (Nat.not_lt_zero i)
  | n + 1, hi, hj, hne => by
    show f i + f j ≤ su f n + f n
    by_cases e : i = n
    · have := su_pt (f := f) (n := n) (j := j) (by omega)
      subst e
      omega
    · by_cases e2 : j = n
      · have := su_pt (f := f) (n := n) (j := i) (by omega)
        subst e2
        omega
      · have := su_two (f := f) (n := n) (i := i) (j := j) (by omega) (by omega) hne
        omega
/-- the greatest of the first numbers, 0 if there are none -/
def mxN (f : Nat → Nat) : Nat → Nat
  | 0 => 0
  | n + 1 => max (mxN f n) (f n)
theorem mxN_ge {f : Nat → Nat} : ∀ {n j : Nat}, j < n → f j ≤ mxN f n
  | 0, j, h => absurd h (Nat.not_lt_zero j)
  | n + 1, j, h => by
    show f j ≤ max (mxN f n) (f n)
    by_cases e : j = n
    · subst e
      omega
    · have := mxN_ge (f := f) (n := n) (j := j) (by omega)
      omega
theorem mxN_le {f : Nat → Nat} {B : Nat} : ∀ {n : Nat}, (∀ j, j < n → f j ≤ B) → mxN f n ≤ B
  | 0, _ => Nat.zero_le _
  | n + 1, h => by
    show max (mxN f n) (f n) ≤ B
    have h1 := mxN_le (f := f) (n := n) (fun j hj => h j (Nat.lt_succ_of_lt hj))
    have h2 := h n (Nat.lt_succ_self n)
    omega
theorem mxN_cong {f g : Nat → Nat} : ∀ {n : Nat}, (∀ j, j < n → f j = g j) → mxN f n = mxN g n
  | 0, _ => rfl
  | n + 1, h => by
    show max (mxN f n) (f n) = max (mxN g n) (g n)
    rw [mxN_cong (fun j hj => h j (Nat.lt_succ_of_lt hj)), h n (Nat.lt_succ_self n)]
theorem mxN_ex {f : Nat → Nat} : ∀ {n : Nat}, 0 < mxN f n → ∃ j, j < n ∧ f j = mxN f n
  | 0, h => absurd h (Nat.lt_irrefl 0)
  | n + 1, h => by
    have h : 0 < max (mxN f n) (f n) := h
    by_cases e : mxN f n ≤ f n
    · exact ⟨n, Nat.lt_succ_self n, by show f n = max (mxN f n) (f n); omega⟩
    · obtain ⟨j, a, b⟩ := mxN_ex (f := f) (n := n) (by omega)
      exact ⟨j, Nat.lt_succ_of_lt a, by show f j = max (mxN f n) (f n); omega⟩
/-! what a cluster holds -/
def pN (c : CS) (j : Nat) : Nat := if kpl c j = -9 then 9 else (kpl c j).toNatClampNeg
def zN (c : CS) (j : Nat) : Nat := (ksz c j).toNatClampNeg
def qN (c : CS) (j : Nat) : Nat := (kpr c j).toNatClampNeg
def oN (c : CS) (k : Nat) : Nat := if kop c k = 1 then 1 else 0
def lzN (c : CS) (k j : Nat) : Nat := if pN c j = k then zN c j else 0
def azN (c : CS) (j : Nat) : Nat := if pN c j = 9 then 0 else zN c j
def mnN (c : CS) (k j : Nat) : Nat := if pN c j = k then 1 else 0
def loadN (c : CS) (k : Nat) : Nat := su (lzN c k) (knj c)
def manyN (c : CS) (k : Nat) : Nat := su (mnN c k) (knj c)
def opN (c : CS) : Nat := su (oN c) (knv c)
def allN (c : CS) : Nat := su (azN c) (knj c)
def buN (c : CS) : Nat := (kbu c).toNatClampNeg
def faN (c : CS) : Nat := (kfa c).toNatClampNeg
def mvF (c : CS) : Nat → Int32
  | 0 => 0
  | j + 1 => mvF c j + kmv c j
def jOk (c : CS) (j : Nat) : Prop := ksz c j = nI (zN c j) ∧ kpr c j = nI (qN c j) ∧ 1 ≤ zN c j ∧ zN c j ≤ 1000 ∧ qN c j ≤ 100
def plOk (s : Nat) (c : CS) (j : Nat) : Prop := (pN c j = 9 ∧ kpl c j = -9) ∨ (pN c j < knv c ∧ kpl c j = nI (pN c j) ∧ (kop c (pN c j) = 1 ∨ pN c j = s))
/-- all but the budget; the server s may be closed and have jobs still -/
def CX (s : Nat) (c : CS) : Prop := (knv c ≤ 6 ∧ knj c ≤ 24) ∧ (∀ j, j < knj c → jOk c j) ∧ (∀ j, j < knj c → plOk s c j) ∧ (∀ k, k < 6 → kld c k = nI (loadN c k)) ∧ (knO c = nI (opN c) ∧ (knv c = 0 ∨ 0 < opN c)) ∧ ksm c = nI (allN c) ∧ (kfa c = nI (faN c) ∧ 100 ≤ faN c ∧ faN c ≤ 400) ∧ kmo c = mvF c (knj c)
abbrev CI (c : CS) : Prop := CX 99 c
def BI (c : CS) : Prop := kbu c = nI (buN c) ∧ buN c ≤ 10000
theorem pN_of9 {c : CS} {j : Nat} (h : kpl c j = -9) : pN c j = 9 := if_pos h
theorem pN_of {c : CS} {j k : Nat} (h : kpl c j = nI k) (hk : k < 2 ^ 31) : pN c j = k := by
  unfold pN
  rw [h, if_neg (ne9 hk), nI_clamp hk]
theorem zN_of {c : CS} {j k : Nat} (h : ksz c j = nI k) (hk : k < 2 ^ 31) : zN c j = k := by
  unfold zN
  rw [h, nI_clamp hk]
theorem qN_of {c : CS} {j k : Nat} (h : kpr c j = nI k) (hk : k < 2 ^ 31) : qN c j = k := by
  unfold qN
  rw [h, nI_clamp hk]
theorem buN_of {c : CS} {k : Nat} (h : kbu c = nI k) (hk : k < 2 ^ 31) : buN c = k := by
  unfold buN
  rw [h, nI_clamp hk]
theorem faN_of {c : CS} {k : Nat} (h : kfa c = nI k) (hk : k < 2 ^ 31) : faN c = k := by
  unfold faN
  rw [h, nI_clamp hk]
section CIS
variable {c : CS} {s : Nat}
theorem ci_nv (h : CX s c) : knv c ≤ 6 := h.1.1
theorem ci_nj (h : CX s c) : knj c ≤ 24 := h.1.2
theorem ci_j (h : CX s c) {j : Nat} (hj : j < knj c) : j < 24 := Nat.lt_of_lt_of_le hj h.1.2
theorem ci_v (h : CX s c) {k : Nat} (hk : k < knv c) : k < 6 := Nat.lt_of_lt_of_le hk h.1.1
theorem ci_z1 (h : CX s c) {j : Nat} (hj : j < knj c) : 1 ≤ zN c j := (h.2.1 j hj).2.2.1
theorem ci_z2 (h : CX s c) {j : Nat} (hj : j < knj c) : zN c j ≤ 1000 := (h.2.1 j hj).2.2.2.1
theorem ci_q (h : CX s c) {j : Nat} (hj : j < knj c) : qN c j ≤ 100 := (h.2.1 j hj).2.2.2.2
theorem ci_p (h : CX s c) {j : Nat} (hj : j < knj c) : pN c j = 9 ∨ (pN c j < knv c ∧ (kop c (pN c j) = 1 ∨ pN c j = s)) := (h.2.2.1 j hj).elim (fun q => Or.inl q.1) (fun q => Or.inr ⟨q.1, q.2.2⟩)
theorem ci_p6 (h : CX s c) {j : Nat} (hj : j < knj c) (h9 : ¬ pN c j = 9) : pN c j < knv c ∧ pN c j < 6 := by
  have q := (ci_p h hj).resolve_left h9
  exact ⟨q.1, ci_v h q.1⟩
theorem ci_op (h : CI c) {j : Nat} (hj : j < knj c) (h9 : ¬ pN c j = 9) : kop c (pN c j) = 1 := by
  have q := (ci_p h hj).resolve_left h9
  have := ci_v h q.1
  exact q.2.resolve_right (by omega)
theorem ci_p10 (h : CX s c) {j : Nat} (hj : j < knj c) : pN c j < 10 := by
  rcases ci_p h hj with q | q
  · omega
  · have := ci_v h q.1
    omega
theorem cz (h : CX s c) {j : Nat} (hj : j < knj c) : aT 24 (ksz c) (nI j) = nI (zN c j) := by
  rw [aT_nI (ci_j h hj) (by decide)]
  exact (h.2.1 j hj).1
theorem cq (h : CX s c) {j : Nat} (hj : j < knj c) : aT 24 (kpr c) (nI j) = nI (qN c j) := by
  rw [aT_nI (ci_j h hj) (by decide)]
  exact (h.2.1 j hj).2.1
theorem cp9 (h : CX s c) {j : Nat} (hj : j < knj c) : aT 24 (kpl c) (nI j) = -9 ↔ pN c j = 9 := by
  rw [aT_nI (ci_j h hj) (by decide)]
  constructor
  · exact fun q => pN_of9 q
  · intro q
    rcases h.2.2.1 j hj with w | w
    · exact w.2
    · have := ci_v h w.1
      omega
theorem cpl (h : CX s c) {j : Nat} (hj : j < knj c) (h9 : ¬ pN c j = 9) : aT 24 (kpl c) (nI j) = nI (pN c j) := by
  rw [aT_nI (ci_j h hj) (by decide)]
  rcases h.2.2.1 j hj with w | w
  · exact absurd w.1 h9
  · exact w.2.1
theorem cpk (h : CX s c) {j k : Nat} (hj : j < knj c) (hk : k < 6) : aT 24 (kpl c) (nI j) = nI k ↔ pN c j = k := by
  by_cases h9 : pN c j = 9
  · rw [(cp9 h hj).mpr h9]
    constructor
    · intro q
      exact absurd q.symm (ne9 (by omega))
    · intro q
      omega
  · rw [cpl h hj h9]
    exact nI_eq (by have := ci_p10 h hj; omega) (by omega)
theorem cfin (h : CX s c) {j : Nat} (hj : j < knj c) : pFin c (nI j) ↔ pN c j = 9 := cp9 h hj
theorem cpp (h : CX s c) {i j : Nat} (hi : i < knj c) (hj : j < knj c) : aT 24 (kpl c) (nI i) = aT 24 (kpl c) (nI j) ↔ pN c i = pN c j := by
  by_cases h9 : pN c j = 9
  · rw [(cp9 h hj).mpr h9, h9]
    exact cp9 h hi
  · rw [cpl h hj h9]
    exact cpk h hi (ci_p6 h hj h9).2
theorem cld (h : CX s c) {k : Nat} (hk : k < 6) : aT 6 (kld c) (nI k) = nI (loadN c k) := by
  rw [aT_nI hk (by decide)]
  exact h.2.2.2.1 k hk
theorem copI {c : CS} {k : Nat} (hk : k < 6) : pOpen c (nI k) ↔ kop c k = 1 := by
  show aT 6 (kop c) (nI k) = 1 ↔ _
  rw [aT_nI hk (by decide)]
theorem lz_le (h : CX s c) {j : Nat} (k : Nat) (hj : j < knj c) : lzN c k j ≤ 1000 := by
  unfold lzN
  split
  · exact ci_z2 h hj
  · omega
theorem load_le (h : CX s c) (k : Nat) : loadN c k ≤ 24000 := by
  have h1 := su_bd (f := lzN c k) (B := 1000) (n := knj c) (fun j hj => lz_le h k hj)
  have := ci_nj h
  show su (lzN c k) (knj c) ≤ 24000
  omega
theorem all_le (h : CX s c) : allN c ≤ 24000 := by
  have h1 := su_bd (f := azN c) (B := 1000) (n := knj c) (fun j hj => by unfold azN; split; omega; exact ci_z2 h hj)
  have := ci_nj h
  show su (azN c) (knj c) ≤ 24000
  omega
theorem load_shut (h : CI c) {k : Nat} (h9 : k ≠ 9) (hk : knv c ≤ k ∨ ¬ kop c k = 1) : loadN c k = 0 := su_zero (fun j hj => by
  unfold lzN
  rw [if_neg]
  intro e
  have w := ci_p6 h hj (by omega)
  have o := ci_op h hj (by omega)
  rw [e] at w o
  rcases hk with q | q
  · omega
  · exact q o)
theorem many_shut (h : CI c) {k : Nat} (h9 : k ≠ 9) (hk : knv c ≤ k ∨ ¬ kop c k = 1) : manyN c k = 0 := su_zero (fun j hj => by
  unfold mnN
  rw [if_neg]
  intro e
  have w := ci_p6 h hj (by omega)
  have o := ci_op h hj (by omega)
  rw [e] at w o
  rcases hk with q | q
  · omega
  · exact q o)
theorem many_le (c : CS) (k : Nat) : manyN c k ≤ knj c := by
  have h1 := su_bd (f := mnN c k) (B := 1) (n := knj c) (fun j _ => by unfold mnN; split <;> omega)
  show su (mnN c k) (knj c) ≤ knj c
  omega
theorem op_le (c : CS) : opN c ≤ knv c := by
  have h1 := su_bd (f := oN c) (B := 1) (n := knv c) (fun j _ => by unfold oN; split <;> omega)
  show su (oN c) (knv c) ≤ knv c
  omega
theorem ci_open (h : CX s c) (hv : 0 < knv c) : ∃ k, k < knv c ∧ kop c k = 1 := by
  have h1 := h.2.2.2.2.1.2.resolve_left (by omega)
  obtain ⟨k, a, b⟩ := su_pos (f := oN c) (n := knv c) h1
  refine ⟨k, a, ?_⟩
  unfold oN at b
  split at b
  · assumption
  · exact absurd b (Nat.lt_irrefl 0)
/-! the full server, the empty one -/
theorem full_up (h : CX s c) : ∀ n, n ≤ knv c → (fullF c n = -9 ∧ ∀ k, k < n → ¬ kop c k = 1) ∨ ∃ f, f < n ∧ fullF c n = nI f ∧ kop c f = 1 ∧ ∀ k, k < n → kop c k = 1 → loadN c k ≤ loadN c f
  | 0, _ => Or.inl ⟨rfl, fun k hk => absurd hk (Nat.not_lt_zero k)⟩
  | n + 1, hn => by
    have ih := full_up h n (by omega)
    have h6 : n < 6 := ci_v h hn
    have ln := load_le h n
    unfold fullF
    rw [aT_nI h6 (by decide) (kop c), cld h h6]
    rcases ih with ⟨e, m⟩ | ⟨f, f0, e, o, m⟩
    · rw [e]
      by_cases g : kop c n = 1
      · rw [if_pos ⟨g, Or.inl rfl⟩]
        refine Or.inr ⟨n, by omega, rfl, g, fun k hk ok => ?_⟩
        by_cases d : k = n
        · subst d
          omega
        · exact absurd ok (m k (by omega))
      · rw [if_neg (fun q => g q.1)]
        refine Or.inl ⟨rfl, fun k hk ok => ?_⟩
        by_cases d : k = n
        · subst d
          exact g ok
        · exact m k (by omega) ok
    · have f6 : f < 6 := ci_v h (by omega)
      have lf := load_le h f
      rw [e, cld h f6]
      by_cases g : kop c n = 1 ∧ (nI f = -9 ∨ nI (loadN c f) < nI (loadN c n))
      · rw [if_pos g]
        have lt : loadN c f < loadN c n := (nI_ltI (by omega) (by omega)).mp (g.2.resolve_left (ne9 (by omega)))
        refine Or.inr ⟨n, by omega, rfl, g.1, fun k hk ok => ?_⟩
        by_cases d : k = n
        · subst d
          omega
        · have := m k (by omega) ok
          omega
      · rw [if_neg g]
        refine Or.inr ⟨f, by omega, rfl, o, fun k hk ok => ?_⟩
        by_cases d : k = n
        · subst d
          refine Nat.le_of_not_lt (fun lt => g ⟨ok, Or.inr ((nI_ltI (by omega) (by omega)).mpr lt)⟩)
        · exact m k (by omega) ok
theorem empty_up (h : CX s c) : ∀ n, n ≤ knv c → (emptyF c n = -9 ∧ ∀ k, k < n → ¬ kop c k = 1) ∨ ∃ f, f < n ∧ emptyF c n = nI f ∧ kop c f = 1 ∧ ∀ k, k < n → kop c k = 1 → loadN c f ≤ loadN c k
  | 0, _ => Or.inl ⟨rfl, fun k hk => absurd hk (Nat.not_lt_zero k)⟩
  | n + 1, hn => by
    have ih := empty_up h n (by omega)
    have h6 : n < 6 := ci_v h hn
    have ln := load_le h n
    unfold emptyF
    rw [aT_nI h6 (by decide) (kop c), cld h h6]
    rcases ih with ⟨e, m⟩ | ⟨f, f0, e, o, m⟩
    · rw [e]
      by_cases g : kop c n = 1
      · rw [if_pos ⟨g, Or.inl rfl⟩]
        refine Or.inr ⟨n, by omega, rfl, g, fun k hk ok => ?_⟩
        by_cases d : k = n
        · subst d
          omega
        · exact absurd ok (m k (by omega))
      · rw [if_neg (fun q => g q.1)]
        refine Or.inl ⟨rfl, fun k hk ok => ?_⟩
        by_cases d : k = n
        · subst d
          exact g ok
        · exact m k (by omega) ok
    · have f6 : f < 6 := ci_v h (by omega)
      have lf := load_le h f
      rw [e, cld h f6]
      by_cases g : kop c n = 1 ∧ (nI f = -9 ∨ nI (loadN c n) < nI (loadN c f))
      · rw [if_pos g]
        have lt : loadN c n < loadN c f := (nI_ltI (by omega) (by omega)).mp (g.2.resolve_left (ne9 (by omega)))
        refine Or.inr ⟨n, by omega, rfl, g.1, fun k hk ok => ?_⟩
        by_cases d : k = n
        · subst d
          omega
        · have := m k (by omega) ok
          omega
      · rw [if_neg g]
        refine Or.inr ⟨f, by omega, rfl, o, fun k hk ok => ?_⟩
        by_cases d : k = n
        · subst d
          refine Nat.le_of_not_lt (fun lt => g ⟨ok, Or.inr ((nI_ltI (by omega) (by omega)).mpr lt)⟩)
        · exact m k (by omega) ok
def gtN (c : CS) : Nat := mxN (loadN c) (knv c)
theorem full_ok (h : CI c) (hv : 0 < knv c) : ∃ f, f < knv c ∧ f < 6 ∧ sFull c = nI f ∧ kop c f = 1 ∧ loadN c f = gtN c ∧ ∀ k, k < knv c → loadN c k ≤ loadN c f := by
  obtain ⟨k0, a0, b0⟩ := ci_open h hv
  rcases full_up h (knv c) (Nat.le_refl _) with ⟨e, m⟩ | ⟨f, f0, e, o, m⟩
  · exact absurd b0 (m k0 a0)
  · have hm : ∀ k, k < knv c → loadN c k ≤ loadN c f := fun k hk => by
      by_cases g : kop c k = 1
      · exact m k hk g
      · rw [load_shut h (by have := ci_v h hk; omega) (Or.inr g)]
        exact Nat.zero_le _
    refine ⟨f, f0, ci_v h f0, e, o, ?_, hm⟩
    exact Nat.le_antisymm (mxN_ge f0) (mxN_le hm)
theorem empty_ok (h : CX s c) (hv : 0 < knv c) : ∃ f, f < knv c ∧ f < 6 ∧ sEmpty c = nI f ∧ kop c f = 1 ∧ ∀ k, k < knv c → kop c k = 1 → loadN c f ≤ loadN c k := by
  obtain ⟨k0, a0, b0⟩ := ci_open h hv
  rcases empty_up h (knv c) (Nat.le_refl _) with ⟨e, m⟩ | ⟨f, f0, e, o, m⟩
  · exact absurd b0 (m k0 a0)
  · exact ⟨f, f0, ci_v h f0, e, o, m⟩
theorem gt_le (h : CX s c) : gtN c ≤ 24000 := mxN_le (fun k _ => load_le h k)
theorem great_eq (h : CI c) : sGreatest c = nI (gtN c) := by
  unfold sGreatest
  by_cases hv : knv c = 0
  · have e : sFull c = -9 := by
      unfold sFull
      rw [hv]
      rfl
    rw [e]
    unfold gtN
    rw [hv]
    rfl
  · obtain ⟨f, f0, f6, e, o, g, m⟩ := full_ok h (by omega)
    rw [e, cld h f6, g]
theorem empty9 {c : CS} (hv : knv c = 0) : sEmpty c = -9 := by
  unfold sEmpty
  rw [hv]
  rfl
/-! bound and target -/
def bgN (c : CS) : Nat := mxN (azN c) (knj c)
def avN (c : CS) : Nat := if opN c = 0 then 0 else (allN c + opN c - 1) / opN c
def bdN (c : CS) : Nat := max (avN c) (bgN c)
def tgN (c : CS) : Nat := bdN c * faN c / 100
theorem az_le (h : CX s c) {j : Nat} (hj : j < knj c) : azN c j ≤ 1000 := by
  unfold azN
  split
  · omega
  · exact ci_z2 h hj
theorem bnd_up (h : CX s c) : ∀ n, n ≤ knj c → bndF c n = nI (mxN (azN c) n)
  | 0, _ => rfl
  | n + 1, hn => by
    have ih := bnd_up h n (by omega)
    have l1 : mxN (azN c) n ≤ 1000 := mxN_le (fun j hj => az_le h (by omega))
    have l2 := ci_z2 h (show n < knj c from hn)
    unfold bndF
    rw [ih]
    show _ = nI (max (mxN (azN c) n) (azN c n))
    unfold azN
    by_cases g : pN c n = 9
    · rw [if_pos ((cp9 h hn).mpr g), if_pos g, Nat.max_zero]
    · rw [if_neg (fun q => g ((cp9 h hn).mp q)), if_neg g, cz h hn]
      have l1 : mxN (fun j => if pN c j = 9 then 0 else zN c j) n ≤ 1000 := l1
      show (if nI (mxN (fun j => if pN c j = 9 then 0 else zN c j) n) < nI (zN c n) then nI (zN c n) else nI (mxN (fun j => if pN c j = 9 then 0 else zN c j) n)) = _
      generalize mxN (fun j => if pN c j = 9 then 0 else zN c j) n = M at l1 ⊢
      by_cases lt : M < zN c n
      · rw [if_pos ((nI_ltI (by omega) (by omega)).mpr lt), Nat.max_eq_right (by omega)]
      · rw [if_neg (fun q => lt ((nI_ltI (by omega) (by omega)).mp q)), Nat.max_eq_left (by omega)]
theorem bg_le (h : CX s c) : bgN c ≤ 1000 := mxN_le (fun _ hj => az_le h hj)
theorem av_le (h : CX s c) : avN c ≤ 24000 := by
  have a := all_le h
  unfold avN
  split
  · omega
  · rename_i g
    have hp : 0 < opN c := Nat.pos_of_ne_zero g
    have : allN c + opN c - 1 < 24001 * opN c := by
      have : 24001 * opN c = 24000 * opN c + opN c := by omega
      have : 24000 ≤ 24000 * opN c := Nat.le_mul_of_pos_right _ hp
      omega
    have := (Nat.div_lt_iff_lt_mul hp).mpr this
    omega
theorem bd_le (h : CX s c) : bdN c ≤ 24000 := by
  have a := av_le h
  have b := bg_le h
  unfold bdN
  omega
theorem avg_eq (h : CX s c) : sAvg c = nI (avN c) := by
  have a := all_le h
  have o1 := op_le c
  have o2 := ci_nv h
  unfold sAvg avN
  rw [h.2.2.2.2.1.1, h.2.2.2.2.2.1]
  by_cases g : opN c = 0
  · rw [if_pos g, g, if_pos (by decide)]
    rfl
  · rw [if_neg g, if_neg (nI_nle (by omega) (by omega)), nI_add, show (1 : Int32) = nI 1 from rfl, pk_sub (by omega), pk_div (by omega) (by omega) (by omega)]
theorem bound_eq (h : CX s c) : sBound c = nI (bdN c) := by
  have a := av_le h
  have b := bg_le h
  unfold sBound bdN
  rw [avg_eq h, bnd_up h _ (Nat.le_refl _)]
  show (if nI (avN c) < nI (bgN c) then nI (bgN c) else nI (avN c)) = _
  by_cases lt : avN c < bgN c
  · rw [if_pos ((nI_ltI (by omega) (by omega)).mpr lt), Nat.max_eq_right (by omega)]
  · rw [if_neg (fun q => lt ((nI_ltI (by omega) (by omega)).mp q)), Nat.max_eq_left (by omega)]
theorem tg_le (h : CX s c) : tgN c ≤ 96000 := by
  have b := bd_le h
  have f := h.2.2.2.2.2.2.1.2.2
  unfold tgN
  have : bdN c * faN c ≤ 24000 * 400 := Nat.mul_le_mul b f
  omega
theorem target_eq (h : CX s c) : sTarget c = nI (tgN c) := by
  have b := bd_le h
  have f := h.2.2.2.2.2.2.1
  have : bdN c * faN c ≤ 24000 * 400 := Nat.mul_le_mul b f.2.2
  unfold sTarget tgN
  rw [bound_eq h, f.1, pk_mul, show (100 : Int32) = nI 100 from rfl, pk_div (by omega) (by decide) (by decide)]
theorem even_iff (h : CI c) : pEven c ↔ gtN c ≤ tgN c := by
  have a := gt_le h
  have b := tg_le h
  show ¬ sTarget c < sGreatest c ↔ _
  rw [target_eq h, great_eq h, nI_ltI (by omega) (by omega)]
  omega
theorem fin_up (h : CX s c) : ∀ n, n ≤ knj c → finF c n = nI (su (mnN c 9) n)
  | 0, _ => rfl
  | n + 1, hn => by
    have ih := fin_up h n (by omega)
    unfold finF
    rw [ih]
    show _ = nI (su (mnN c 9) n + mnN c 9 n)
    unfold mnN
    by_cases g : pN c n = 9
    · rw [if_pos ((cfin h hn).mpr g), if_pos g]
      exact nI_1 _
    · rw [if_neg (fun q => g ((cfin h hn).mp q)), if_neg g]
      rfl
theorem above_up (h : CX s c) {t : Nat} (ht : t < 2 ^ 31) : ∀ n, n ≤ knv c → abF c (nI t) n = nI (su (fun k => if loadN c k ≤ t then 0 else 1) n)
  | 0, _ => rfl
  | n + 1, hn => by
    have ih := above_up h ht n (by omega)
    have ln := load_le h n
    unfold abF
    rw [ih, cld h (ci_v h hn)]
    show _ = nI (su (fun k => if loadN c k ≤ t then 0 else 1) n + (if loadN c n ≤ t then 0 else 1))
    by_cases g : loadN c n ≤ t
    · rw [if_pos ((nI_leI (by omega) ht).mpr g), if_pos g]
      rfl
    · rw [if_neg (fun q => g ((nI_leI (by omega) ht).mp q)), if_neg g]
      exact nI_1 _
/-! the set of a server's jobs -/
theorem on_bt (h : CX s c) {k : Nat} (hk : k < 6) {i : Nat} (hi : i < 32) : ∀ n, n ≤ knj c → bt (onF c (nI k) n) i = (decide (i < n) && decide (pN c i = k))
  | 0, _ => by
    rw [decide_eq_false (Nat.not_lt_zero i), Bool.false_and]
    exact b_0 i
  | n + 1, hn => by
    have ih := on_bt h hk hi n (by omega)
    have n24 := ci_j h hn
    unfold onF
    by_cases g : pN c n = k
    · rw [if_pos ((cpk h hn hk).mpr g), b_or, ih, bt_one (by omega) hi]
      by_cases d : i = n
      · rw [d, decide_eq_true g, decide_eq_true (Nat.lt_succ_self n), decide_eq_true rfl, Bool.or_true]
        rfl
      · rw [decide_eq_false d, Bool.or_false, decide_eq_decide.mpr (show i < n ↔ i < n + 1 by omega)]
    · rw [if_neg (fun q => g ((cpk h hn hk).mp q)), ih]
      by_cases d : i = n
      · rw [d, decide_eq_false g, Bool.and_false, Bool.and_false]
      · rw [decide_eq_decide.mpr (show i < n ↔ i < n + 1 by omega)]
theorem su_ct (p : Nat → Bool) : ∀ n, fb_ct p n = su (fun i => if p i = true then 1 else 0) n
  | 0 => rfl
  | n + 1 => by
    rw [fb_ct_succ, su_ct p n]
    rfl
theorem su_ext {f : Nat → Nat} {m : Nat} : ∀ {n : Nat}, m ≤ n → (∀ j, m ≤ j → j < n → f j = 0) → su f n = su f m
  | 0, h, _ => by rw [Nat.le_zero.mp h]
  | n + 1, h, hz => by
    by_cases e : m = n + 1
    · rw [e]
    · show su f n + f n = su f m
      rw [su_ext (by omega) (fun j a b => hz j a (by omega)), hz n (by omega) (by omega)]
      rfl
theorem bc_many (h : CX s c) {k : Nat} (hk : k < 6) : bcN (sOn c (nI k)) = manyN c k := by
  have n24 := ci_nj h
  unfold sOn
  rw [bc_ct _ (fun i hi => by
    by_cases g : i < 32
    · rw [on_bt h hk g _ (Nat.le_refl _), decide_eq_false (by omega), Bool.false_and]
    · exact b_big (by omega)), su_ct]
  rw [su_ext (m := knj c) n24 (fun j a b => by rw [on_bt h hk (by omega) _ (Nat.le_refl _), decide_eq_false (by omega), Bool.false_and]; rfl)]
  exact su_cong (fun j hj => by
    rw [on_bt h hk (by omega) _ (Nat.le_refl _), decide_eq_true hj, Bool.true_and]
    unfold mnN
    by_cases g : pN c j = k
    · rw [if_pos g, decide_eq_true g, if_pos rfl]
    · rw [if_neg g, decide_eq_false g, if_neg (by decide)])
end CIS
