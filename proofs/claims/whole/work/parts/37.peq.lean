/-! ===== the fewest moves ===== -/
theorem fb_rng (x : Int32) : -2147483648 ≤ x.toInt ∧ x.toInt < 2147483648 := by
  have h1 := Int32.le_toInt x
  have h2 := Int32.toInt_lt x
  omega
theorem fb_bmod {z : Int} (h1 : -2147483648 ≤ z) (h2 : z < 2147483648) : z.bmod (2 ^ 32) = z := by
  rw [Int.bmod_eq_of_le (by omega) (by omega)]
theorem fb_addI {x y : Int32} (h1 : -2147483648 ≤ x.toInt + y.toInt) (h2 : x.toInt + y.toInt < 2147483648) : (x + y).toInt = x.toInt + y.toInt := by
  rw [Int32.toInt_add, fb_bmod h1 h2]
theorem fb_subI {x y : Int32} (h1 : -2147483648 ≤ x.toInt - y.toInt) (h2 : x.toInt - y.toInt < 2147483648) : (x - y).toInt = x.toInt - y.toInt := by
  rw [Int32.toInt_sub, fb_bmod h1 h2]
def vO : Option Nat → Int32
  | none => -9
  | some n => nI n
def oM : Option Nat → Option Nat → Option Nat
  | none, b => b
  | some a, none => some a
  | some a, some b => some (min a b)
def oA (p : Nat) : Option Nat → Option Nat
  | none => none
  | some n => some (p + n)
def oB (m : Nat) (o : Option Nat) : Prop := ∀ n, o = some n → n ≤ m
theorem oM_r (a : Option Nat) : oM a none = a := by cases a <;> rfl
theorem oM_as (a b d : Option Nat) : oM (oM a b) d = oM a (oM b d) := by
  cases a <;> cases b <;> cases d <;> simp [oM, Nat.min_assoc]
theorem oA_M (p : Nat) (a b : Option Nat) : oA p (oM a b) = oM (oA p a) (oA p b) := by
  cases a <;> cases b <;> simp [oA, oM]
theorem oB_M {m : Nat} {a b : Option Nat} (h : oB m a) (g : oB m b) : oB m (oM a b) := by
  intro n e
  cases a with
  | none => exact g n e
  | some x =>
    cases b with
    | none => exact h n e
    | some y =>
      have hx := h x rfl
      have e2 : some (min x y) = some n := e
      injection e2 with e3
      omega
theorem oB_A {m p : Nat} {a : Option Nat} (h : oB m a) : oB (p + m) (oA p a) := by
  intro n e
  cases a with
  | none => cases e
  | some x =>
    have hx := h x rfl
    have e2 : some (p + x) = some n := e
    injection e2 with e3
    omega
theorem oB_le {m k : Nat} {a : Option Nat} (h : oB m a) (l : m ≤ k) : oB k a := fun n e => Nat.le_trans (h n e) l
theorem oB_n (m : Nat) : oB m none := fun n e => by cases e
theorem vO_n {o : Option Nat} {m : Nat} (h : oB m o) (hm : m < 2 ^ 31) : vO o = -9 ↔ o = none := by
  cases o with
  | none => exact ⟨fun _ => rfl, fun _ => rfl⟩
  | some x =>
    have hx := h x rfl
    exact ⟨fun e => absurd e (st_ne9 (by omega)), fun e => by cases e⟩
theorem vO_m {P : Prop} [Decidable P] {b : Option Nat} {x : Nat} (hb : oB 1000 b) (hx : x ≤ 1000) : (if P ∧ (vO b = -9 ∨ nI x < vO b) then nI x else vO b) = vO (oM b (if P then some x else none)) := by
  by_cases p : P
  · rw [if_pos p]
    cases b with
    | none =>
      rw [if_pos ⟨p, Or.inl rfl⟩]
      rfl
    | some y =>
      have hy := hb y rfl
      have e : (vO (some y) = -9 ∨ nI x < vO (some y)) ↔ x < y := by
        constructor
        · rintro (q | q)
          · exact absurd q (st_ne9 (n := y) (by omega))
          · exact (nI_ltI (by omega) (by omega)).mp q
        · exact fun q => Or.inr ((nI_ltI (by omega) (by omega)).mpr q)
      show _ = nI (min y x)
      by_cases q : x < y
      · rw [if_pos ⟨p, e.mpr q⟩, Nat.min_eq_right (by omega)]
      · rw [if_neg (fun r => q (e.mp r.2)), Nat.min_eq_left (by omega)]
        rfl
  · rw [if_neg (fun q => p q.1), if_neg p, oM_r]
theorem vO_c {b r : Option Nat} {p : Nat} (hb : oB 1000 b) (hr : oB 500 r) (hp : p ≤ 200) : (if ¬ vO r = -9 ∧ (vO b = -9 ∨ vO r + nI p < vO b) then vO r + nI p else vO b) = vO (oM b (oA p r)) := by
  cases r with
  | none =>
    rw [if_neg (fun q => q.1 rfl)]
    show vO b = vO (oM b none)
    rw [oM_r]
  | some y =>
    have hy := hr y rfl
    have e : vO (some y) + nI p = nI (p + y) := by
      show nI y + nI p = _
      rw [nI_add, Nat.add_comm]
    rw [e, vO_m (P := ¬ vO (some y) = -9) hb (by omega), if_pos (show ¬ vO (some y) = -9 from st_ne9 (n := y) (by omega))]
    rfl
def gK (cd : Nat → Bool) (r : Nat → Option Nat) (b : Option Nat) : Nat → Option Nat
  | 0 => b
  | k + 1 => if cd k = true then oM (gK cd r b k) (r k) else gK cd r b k
def hJ (sk : Nat → Bool) (f : Nat) (q : Nat → Option Nat) (b : Option Nat) : Nat → Option Nat
  | 0 => b
  | j + 1 => if j < f then b else if sk j = true then hJ sk f q b j else oM (hJ sk f q b j) (q j)
theorem gK_l (cd : Nat → Bool) (r : Nat → Option Nat) (b : Option Nat) : ∀ k, gK cd r b k = oM b (gK cd r none k)
  | 0 => (oM_r b).symm
  | k + 1 => by
    unfold gK
    rw [gK_l cd r b k]
    split
    · exact oM_as _ _ _
    · rfl
theorem gK_A (cd : Nat → Bool) (r : Nat → Option Nat) (p : Nat) : ∀ k, gK cd (fun k => oA p (r k)) none k = oA p (gK cd r none k)
  | 0 => rfl
  | k + 1 => by
    unfold gK
    rw [gK_A cd r p k]
    split
    · exact (oA_M _ _ _).symm
    · rfl
theorem gK_c {cd : Nat → Bool} {r t : Nat → Option Nat} {b : Option Nat} : ∀ k, (∀ i, i < k → cd i = true → r i = t i) → gK cd r b k = gK cd t b k
  | 0, _ => rfl
  | k + 1, h => by
    unfold gK
    rw [gK_c k (fun i hi => h i (by omega))]
    split
    · rename_i g
      rw [h k (by omega) g]
    · rfl
theorem gK_0 {cd : Nat → Bool} {r : Nat → Option Nat} : ∀ k, (∀ i, i < k → cd i = true → r i = none) → gK cd r none k = none
  | 0, _ => rfl
  | k + 1, h => by
    unfold gK
    rw [gK_0 k (fun i hi => h i (by omega))]
    split
    · rename_i g
      rw [h k (by omega) g]
      rfl
    · rfl
theorem gK_B {m : Nat} {cd : Nat → Bool} {r : Nat → Option Nat} {b : Option Nat} (hb : oB m b) : ∀ k, (∀ i, i < k → cd i = true → oB m (r i)) → oB m (gK cd r b k)
  | 0, _ => hb
  | k + 1, h => by
    have ih := gK_B hb k (fun i hi => h i (by omega))
    unfold gK
    split
    · rename_i g
      exact oB_M ih (h k (by omega) g)
    · exact ih
theorem hJ_l (sk : Nat → Bool) (f : Nat) (q : Nat → Option Nat) (b : Option Nat) : ∀ j, hJ sk f q b j = oM b (hJ sk f q none j)
  | 0 => (oM_r b).symm
  | j + 1 => by
    unfold hJ
    rw [hJ_l sk f q b j]
    split
    · exact (oM_r b).symm
    · split
      · rfl
      · exact oM_as _ _ _
theorem hJ_A (sk : Nat → Bool) (f : Nat) (q : Nat → Option Nat) (p : Nat) : ∀ j, hJ sk f (fun j => oA p (q j)) none j = oA p (hJ sk f q none j)
  | 0 => rfl
  | j + 1 => by
    unfold hJ
    rw [hJ_A sk f q p j]
    split
    · rfl
    · split
      · rfl
      · exact (oA_M _ _ _).symm
theorem hJ_c {sk : Nat → Bool} {f : Nat} {q t : Nat → Option Nat} {b : Option Nat} : ∀ j, (∀ i, i < j → f ≤ i → sk i = false → q i = t i) → hJ sk f q b j = hJ sk f t b j
  | 0, _ => rfl
  | j + 1, h => by
    unfold hJ
    rw [hJ_c j (fun i hi => h i (by omega))]
    split
    · rfl
    · split
      · rfl
      · rename_i g1 g2
        rw [h j (by omega) (by omega) (by cases e : sk j; rfl; exact absurd e g2)]
theorem hJ_0 {sk : Nat → Bool} {f : Nat} {q : Nat → Option Nat} : ∀ j, (∀ i, i < j → f ≤ i → sk i = false → q i = none) → hJ sk f q none j = none
  | 0, _ => rfl
  | j + 1, h => by
    unfold hJ
    rw [hJ_0 j (fun i hi => h i (by omega))]
    split
    · rfl
    · split
      · rfl
      · rename_i g1 g2
        rw [h j (by omega) (by omega) (by cases e : sk j; rfl; exact absurd e g2)]
        rfl
theorem hJ_B {m : Nat} {sk : Nat → Bool} {f : Nat} {q : Nat → Option Nat} {b : Option Nat} (hb : oB m b) : ∀ j, (∀ i, i < j → f ≤ i → sk i = false → oB m (q i)) → oB m (hJ sk f q b j)
  | 0, _ => hb
  | j + 1, h => by
    have ih := hJ_B hb j (fun i hi => h i (by omega))
    unfold hJ
    split
    · exact hb
    · split
      · exact ih
      · rename_i g1 g2
        exact oB_M ih (h j (by omega) (by omega) (by cases e : sk j; rfl; exact absurd e g2))
/-! the reference, so told -/
def pN (s : Nat → Int32) (j : Nat) : Nat := (mOf s (nI j) 1).toNatClampNeg
theorem pN_e {s : Nat → Int32} {nv nj : Nat} (h : rS s nv nj) (hn : nj ≤ 24) {j : Nat} (hj : j < nj) : mOf s (nI j) 1 = nI (pN s j) ∧ pN s j ≤ 100 := by
  obtain ⟨b, hb, e⟩ := pr_nI h hn hj
  have e2 : pN s j = b := by
    unfold pN
    rw [e, nI_clamp (by omega)]
  rw [e2]
  exact ⟨e, hb⟩
def cdK (s : Nat → Int32) (nv j k : Nat) : Bool := decide (¬ nI k = mOf s (nI j) 2 ∧ pMOpen s nv (nI k))
def skJ (s : Nat → Int32) (j : Nat) : Bool := decide (mOf s (nI j) 2 = -9)
abbrev mvL (s : Nat → Int32) (M : Nat → Int32) (j k : Nat) : Nat → Int32 := lsMv s (nI j) (mOf s (nI j) 2) (nI k) M
def q1 (s : Nat → Int32) (nv : Nat) (t : Int32) (pr : Nat) (M : Nat → Int32) (j : Nat) : Option Nat := gK (cdK s nv j) (fun k => if pBel t (mvL s M j k) then some (pr + pN s j) else none) none nv
def T1 (s : Nat → Int32) (nv nj : Nat) (t : Int32) (M : Nat → Int32) (f : Nat) : Option Nat := hJ (skJ s) f (q1 s nv t 0 M) none nj
def q2 (s : Nat → Int32) (nv nj : Nat) (t : Int32) (M : Nat → Int32) (j : Nat) : Option Nat := gK (cdK s nv j) (fun k => oA (pN s j) (T1 s nv nj t (mvL s M j k) (j + 1))) none nv
def T2 (s : Nat → Int32) (nv nj : Nat) (t : Int32) (M : Nat → Int32) : Option Nat := hJ (skJ s) 0 (q2 s nv nj t M) none nj
theorem q1_B {s : Nat → Int32} {nv nj : Nat} (h : rS s nv nj) (hn : nj ≤ 24) (t : Int32) {pr : Nat} (hp : pr ≤ 100) (M : Nat → Int32) {j : Nat} (hj : j < nj) : oB (pr + 100) (q1 s nv t pr M j) := by
  have e := pN_e h hn hj
  refine gK_B (oB_n _) nv (fun k _ _ n q => ?_)
  by_cases g : pBel t (mvL s M j k)
  · rw [if_pos g] at q
    injection q with q
    omega
  · rw [if_neg g] at q
    cases q
theorem T1_B {s : Nat → Int32} {nv nj : Nat} (h : rS s nv nj) (hn : nj ≤ 24) (t : Int32) (M : Nat → Int32) (f : Nat) : oB 100 (T1 s nv nj t M f) :=
  hJ_B (oB_n _) nj (fun j hj _ _ => oB_le (q1_B h hn t (Nat.zero_le 100) M hj) (by omega))
theorem tmK_v {s : Nat → Int32} {nv nj : Nat} (h : rS s nv nj) (hn : nj ≤ 24) (t : Int32) {pr : Nat} (hp : pr ≤ 100) (M : Nat → Int32) {j : Nat} (hj : j < nj) {b : Option Nat} (hb : oB 1000 b) : ∀ k, tmK s nv t (nI pr) M j (vO b) k = vO (gK (cdK s nv j) (fun k => if pBel t (mvL s M j k) then some (pr + pN s j) else none) b k) ∧ oB 1000 (gK (cdK s nv j) (fun k => if pBel t (mvL s M j k) then some (pr + pN s j) else none) b k)
  | 0 => ⟨rfl, hb⟩
  | k + 1 => by
    obtain ⟨ih, ib⟩ := tmK_v h hn t hp M hj hb k
    have e := pN_e h hn hj
    have ep : nI pr + mOf s (nI j) 1 = nI (pr + pN s j) := by rw [e.1, nI_add]
    unfold tmK gK
    by_cases g : ¬ nI k = mOf s (nI j) 2 ∧ pMOpen s nv (nI k)
    · have g2 : cdK s nv j k = true := decide_eq_true g
      rw [if_pos g, if_pos g2, ih, ep]
      refine ⟨vO_m ib (by omega), oB_M ib (fun n q => ?_)⟩
      by_cases w : pBel t (mvL s M j k)
      · rw [if_pos w] at q
        injection q with q
        omega
      · rw [if_neg w] at q
        cases q
    · have g2 : ¬ cdK s nv j k = true := fun q => g (of_decide_eq_true q)
      rw [if_neg g, if_neg g2]
      exact ⟨ih, ib⟩
theorem tmJ_v {s : Nat → Int32} {nv nj : Nat} (h : rS s nv nj) (hn : nj ≤ 24) (t : Int32) {pr : Nat} (hp : pr ≤ 100) (M : Nat → Int32) (f : Nat) {b : Option Nat} (hb : oB 1000 b) : ∀ j, j ≤ nj → tmJ s nv t (nI pr) M f (vO b) j = vO (hJ (skJ s) f (q1 s nv t pr M) b j) ∧ oB 1000 (hJ (skJ s) f (q1 s nv t pr M) b j)
  | 0, _ => ⟨rfl, hb⟩
  | j + 1, hj => by
    obtain ⟨ih, ib⟩ := tmJ_v h hn t hp M f hb j (by omega)
    unfold tmJ hJ
    by_cases g : j < f
    · rw [if_pos g, if_pos g]
      exact ⟨rfl, hb⟩
    · rw [if_neg g, if_neg g]
      by_cases w : mOf s (nI j) 2 = -9
      · have w2 : skJ s j = true := decide_eq_true w
        rw [if_pos w, if_pos w2]
        exact ⟨ih, ib⟩
      · have w2 : ¬ skJ s j = true := fun q => w (of_decide_eq_true q)
        have K := tmK_v h hn t hp M (show j < nj by omega) ib nv
        rw [gK_l] at K
        rw [if_neg w, if_neg w2, ih]
        exact K
theorem q1_A (s : Nat → Int32) (nv : Nat) (t : Int32) (pr : Nat) (M : Nat → Int32) (j : Nat) : q1 s nv t pr M j = oA pr (q1 s nv t 0 M j) := by
  unfold q1
  rw [← gK_A]
  refine gK_c nv (fun k _ _ => ?_)
  by_cases g : pBel t (mvL s M j k)
  · rw [if_pos g, if_pos g]
    show some _ = some _
    rw [Nat.zero_add]
  · rw [if_neg g, if_neg g]
    rfl
theorem tmJ_T {s : Nat → Int32} {nv nj : Nat} (h : rS s nv nj) (hn : nj ≤ 24) (t : Int32) {pr : Nat} (hp : pr ≤ 100) (M : Nat → Int32) (f : Nat) {b : Option Nat} (hb : oB 1000 b) : tmJ s nv t (nI pr) M f (vO b) nj = vO (oM b (oA pr (T1 s nv nj t M f))) := by
  rw [(tmJ_v h hn t hp M f hb nj (Nat.le_refl _)).1, hJ_l]
  unfold T1
  rw [← hJ_A, hJ_c nj (fun j _ _ _ => q1_A s nv t pr M j)]
theorem dbK_v {s : Nat → Int32} {nv nj : Nat} (h : rS s nv nj) (hn : nj ≤ 24) (t : Int32) (M : Nat → Int32) {j : Nat} (hj : j < nj) {b : Option Nat} (hb : oB 1000 b) : ∀ k, dbK s nv nj t M j (vO b) k = vO (gK (cdK s nv j) (fun k => oA (pN s j) (T1 s nv nj t (mvL s M j k) (j + 1))) b k) ∧ oB 1000 (gK (cdK s nv j) (fun k => oA (pN s j) (T1 s nv nj t (mvL s M j k) (j + 1))) b k)
  | 0 => ⟨rfl, hb⟩
  | k + 1 => by
    obtain ⟨ih, ib⟩ := dbK_v h hn t M hj hb k
    have e := pN_e h hn hj
    unfold dbK gK
    by_cases g : ¬ nI k = mOf s (nI j) 2 ∧ pMOpen s nv (nI k)
    · have g2 : cdK s nv j k = true := decide_eq_true g
      rw [if_pos g, if_pos g2, ih, e.1, tmJ_T h hn t e.2 _ _ ib]
      exact ⟨rfl, oB_M ib (oB_le (oB_A (T1_B h hn t _ _)) (by omega))⟩
    · have g2 : ¬ cdK s nv j k = true := fun q => g (of_decide_eq_true q)
      rw [if_neg g, if_neg g2]
      exact ⟨ih, ib⟩
theorem dbJ_v {s : Nat → Int32} {nv nj : Nat} (h : rS s nv nj) (hn : nj ≤ 24) (t : Int32) (M : Nat → Int32) {b : Option Nat} (hb : oB 1000 b) : ∀ j, j ≤ nj → dbJ s nv nj t M (vO b) j = vO (hJ (skJ s) 0 (q2 s nv nj t M) b j) ∧ oB 1000 (hJ (skJ s) 0 (q2 s nv nj t M) b j)
  | 0, _ => ⟨rfl, hb⟩
  | j + 1, hj => by
    obtain ⟨ih, ib⟩ := dbJ_v h hn t M hb j (by omega)
    unfold dbJ hJ
    rw [if_neg (Nat.not_lt_zero j)]
    by_cases w : mOf s (nI j) 2 = -9
    · have w2 : skJ s j = true := decide_eq_true w
      rw [if_pos w, if_pos w2]
      exact ⟨ih, ib⟩
    · have w2 : ¬ skJ s j = true := fun q => w (of_decide_eq_true q)
      have K := dbK_v h hn t M (show j < nj by omega) ib nv
      rw [gK_l] at K
      rw [if_neg w, if_neg w2, ih]
      exact K
/-! the class, so told -/
def abv (L : Nat → Int32) (t : Int32) (n : Nat) : Nat := fb_ct (fun k => decide (t < L k)) n
theorem ab_v {c : CS} (t : Int32) : ∀ n, n ≤ 6 → abF c t n = nI (abv (kld c) t n)
  | 0, _ => rfl
  | n + 1, hn => by
    unfold abF abv
    rw [ab_v t n (by omega), fb_ct_succ, aT_nI (show n < 6 by omega) (by decide)]
    by_cases g : kld c n ≤ t
    · rw [if_pos g, if_neg (fun q => Int32.lt_irrefl (Int32.lt_of_lt_of_le (of_decide_eq_true q) g))]
      rfl
    · rw [if_neg g, if_pos (decide_eq_true (Int32.not_le.mp g)), nI_1]
      rfl
theorem bl_all (t : Int32) (M : Nat → Int32) : ∀ n, ¬ blF t M n = 0 ↔ ∀ k, k < n → M k ≤ t
  | 0 => ⟨fun _ k hk => absurd hk (Nat.not_lt_zero k), fun _ => by show ¬ (1 : Int32) = 0; decide⟩
  | n + 1 => by
    have ih := bl_all t M n
    unfold blF
    by_cases g : ¬ blF t M n = 0 ∧ M n ≤ t
    · rw [if_pos g]
      refine ⟨fun _ k hk => ?_, fun _ => by decide⟩
      by_cases d : k = n
      · rw [d]
        exact g.2
      · exact ih.mp g.1 k (by omega)
    · rw [if_neg g]
      exact ⟨fun q => absurd rfl q, fun a => absurd ⟨ih.mpr (fun k hk => a k (by omega)), a n (by omega)⟩ g⟩
/-- loads that are told twice: no load where there is no server, and none of them large -/
def lI (nv : Nat) (B : Int) (M : Nat → Int32) : Prop := ∀ k, k < 6 → (nv ≤ k → M k = 0) ∧ -B ≤ (M k).toInt ∧ (M k).toInt ≤ B
theorem bel_abv {nv : Nat} {B : Int} {M : Nat → Int32} {t : Int32} (hv : nv ≤ 6) (h : lI nv B M) (ht : 0 ≤ t) : pBel t M ↔ abv M t nv = 0 := by
  show ¬ blF t M 6 = 0 ↔ _
  rw [bl_all]
  unfold abv
  rw [fb_ct_zero]
  constructor
  · exact fun a k hk => decide_eq_false (fun q => Int32.lt_irrefl (Int32.lt_of_lt_of_le q (a k (by omega))))
  · intro a k hk
    by_cases d : k < nv
    · exact Int32.not_lt.mp (of_decide_eq_false (a k d))
    · rw [(h k hk).1 (by omega)]
      exact ht
theorem mvL_at {s M : Nat → Int32} {j a k : Nat} (hp : mOf s (nI j) 2 = nI a) (ha : a < 6) (hk : k < 6) (hne : k ≠ a) (i : Nat) : mvL s M j k i = if i = k then M k + mOf s (nI j) 0 else if i = a then M a - mOf s (nI j) 0 else M i := by
  show lsMv s (nI j) (mOf s (nI j) 2) (nI k) M i = _
  unfold lsMv
  rw [hp]
  simp only [nI_clamp (show a < 2 ^ 31 by omega), nI_clamp (show k < 2 ^ 31 by omega), upd, if_neg hne]
theorem lI_mv {s M : Nat → Int32} {nv nj : Nat} {B : Int} (h : rS s nv nj) (hn : nj ≤ 24) (hB : B ≤ 1000000) {j a k : Nat} (hj : j < nj) (hp : mOf s (nI j) 2 = nI a) (ha : a < nv) (hk : k < nv) (hv : nv ≤ 6) (hne : k ≠ a) (hM : lI nv B M) : lI nv (B + 1000) (mvL s M j k) := by
  have gz := sz_nI h hj
  have ez : (mOf s (nI j) 0).toInt = szN s j := by rw [mOf_0 s (by omega), gz.1, nI_toInt (by omega)]
  intro i hi
  rw [mvL_at hp (by omega) (by omega) hne i]
  have mk := (hM k (by omega)).2
  have ma := (hM a (by omega)).2
  have mi := hM i hi
  by_cases c1 : i = k
  · rw [if_pos c1]
    have q : (M k + mOf s (nI j) 0).toInt = (M k).toInt + (szN s j : Int) := by rw [fb_addI (by omega) (by omega), ez]
    exact ⟨fun w => by omega, by omega, by omega⟩
  · rw [if_neg c1]
    by_cases c2 : i = a
    · rw [if_pos c2]
      have q : (M a - mOf s (nI j) 0).toInt = (M a).toInt - (szN s j : Int) := by rw [fb_subI (by omega) (by omega), ez]
      exact ⟨fun w => by omega, by omega, by omega⟩
    · rw [if_neg c2]
      exact ⟨mi.1, by omega, by omega⟩
theorem abv_mv {s M : Nat → Int32} {nv nj : Nat} {B : Int} (h : rS s nv nj) (hn : nj ≤ 24) (hB : B ≤ 1000000) {j a k : Nat} (hj : j < nj) (hp : mOf s (nI j) 2 = nI a) (ha : a < nv) (hk : k < nv) (hv : nv ≤ 6) (hne : k ≠ a) (hM : lI nv B M) (t : Int32) : abv M t nv ≤ abv (mvL s M j k) t nv + 1 := by
  have gz := sz_nI h hj
  have ez : (mOf s (nI j) 0).toInt = szN s j := by rw [mOf_0 s (by omega), gz.1, nI_toInt (by omega)]
  have u := fb_ct_upd (fun i => decide (t < M i)) false (i := a) (n := nv) ha
  have sub : fb_ct (fun i => if i = a then false else decide (t < M i)) nv ≤ abv (mvL s M j k) t nv := fb_ct_sub (fun i hi w => by
    by_cases c2 : i = a
    · rw [if_pos c2] at w
      cases w
    · rw [if_neg c2] at w
      have lt : t < M i := of_decide_eq_true w
      refine decide_eq_true ?_
      rw [mvL_at hp (by omega) (by omega) hne i]
      by_cases c1 : i = k
      · rw [if_pos c1]
        rw [c1] at lt
        have mk := (hM k (by omega)).2
        have q : (M k + mOf s (nI j) 0).toInt = (M k).toInt + (szN s j : Int) := by rw [fb_addI (by omega) (by omega), ez]
        rw [Int32.lt_iff_toInt_lt] at lt ⊢
        omega
      · rw [if_neg c1, if_neg c2]
        exact lt)
  unfold abv at *
  by_cases w : decide (t < M a) = true
  · rw [w] at u
    simp only [if_true, Bool.false_eq_true, if_false] at u
    omega
  · rw [if_neg w] at u
    simp only [Bool.false_eq_true, if_false] at u
    omega
