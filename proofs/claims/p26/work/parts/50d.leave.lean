/-! ===== the order in which the jobs leave; closing ===== -/
theorem su_lt {f g : Nat → Nat} {i : Nat} : ∀ {n : Nat}, (∀ j, j < n → f j ≤ g j) → i < n → f i < g i → su f n < su g n
  | 0, _, h, _ => absurd h (Nat.not_lt_zero i)
  | n + 1, h, hi, lt => by
    show su f n + f n < su g n + g n
    have hn := h n (Nat.lt_succ_self n)
    by_cases e : i = n
    · subst e
      have := su_le (f := f) (g := g) (n := i) (fun j hj => h j (Nat.lt_succ_of_lt hj))
      omega
    · have := su_lt (n := n) (fun j hj => h j (Nat.lt_succ_of_lt hj)) (by omega) lt
      omega
abbrev bfN (c : CS) (i j : Nat) : Prop := zN c j < zN c i ∨ (zN c i = zN c j ∧ (qN c i < qN c j ∨ (qN c i = qN c j ∧ i < j)))
theorem bf_irr (c : CS) (i : Nat) : ¬ bfN c i i := by omega
theorem bf_tr {c : CS} {i j k : Nat} (h1 : bfN c i j) (h2 : bfN c j k) : bfN c i k := by omega
theorem bf_tot {c : CS} {i j : Nat} (h : i ≠ j) : bfN c i j ∨ bfN c j i := by omega
def rfN (c : CS) (j o : Nat) : Nat := if pN c o = pN c j ∧ bfN c o j then 1 else 0
def rankN (c : CS) (j : Nat) : Nat := su (rfN c j) (knj c)
section LV
variable {c : CS} {s : Nat}
theorem bf_iff (h : CX s c) {i j : Nat} (hi : i < knj c) (hj : j < knj c) : pBefore c (nI i) (nI j) ↔ bfN c i j := by
  have i24 := ci_j h hi
  have j24 := ci_j h hj
  have z1 := ci_z2 h hi
  have z2 := ci_z2 h hj
  have q1 := ci_q h hi
  have q2 := ci_q h hj
  show (if _ then (if _ then _ else _) else _) ↔ _
  rw [cz h hi, cz h hj, cq h hi, cq h hj]
  by_cases e : zN c i = zN c j
  · rw [if_pos (by rw [e])]
    by_cases e2 : qN c i = qN c j
    · rw [if_pos (by rw [e2]), nI_ltI (by omega) (by omega)]
      omega
    · rw [if_neg (fun w => e2 ((nI_eq (by omega) (by omega)).mp w)), nI_ltI (by omega) (by omega)]
      omega
  · rw [if_neg (fun w => e ((nI_eq (by omega) (by omega)).mp w)), nI_ltI (by omega) (by omega)]
    omega
theorem bf_up (h : CX s c) {j : Nat} (hj : j < knj c) : ∀ n, n ≤ knj c → bfF c (nI j) n = nI (su (rfN c j) n)
  | 0, _ => rfl
  | n + 1, hn => by
    have ih := bf_up h hj n (by omega)
    unfold bfF
    rw [ih]
    show _ = nI (su (rfN c j) n + rfN c j n)
    have e : (aT 24 (kpl c) (nI n) = aT 24 (kpl c) (nI j) ∧ pBefore c (nI n) (nI j)) ↔ (pN c n = pN c j ∧ bfN c n j) := and_congr (cpp h hn hj) (bf_iff h hn hj)
    by_cases g : pN c n = pN c j ∧ bfN c n j
    · rw [if_pos (e.mpr g), show rfN c j n = 1 from if_pos g]
      exact nI_1 _
    · rw [if_neg (fun w => g (e.mp w)), show rfN c j n = 0 from if_neg g]
      rfl
theorem bf_eq (h : CX s c) {j : Nat} (hj : j < knj c) : sBf c (nI j) = nI (rankN c j) := bf_up h hj _ (Nat.le_refl _)
theorem rank_le (h : CX s c) (j : Nat) : rankN c j ≤ 24 := by
  have h1 := su_bd (f := rfN c j) (B := 1) (n := knj c) (fun o _ => by unfold rfN; split <;> omega)
  have := ci_nj h
  show su (rfN c j) (knj c) ≤ 24
  omega
theorem rank_mono {i j : Nat} (hi : i < knj c) (e : pN c i = pN c j) (b : bfN c i j) : rankN c i < rankN c j := by
  refine su_lt (i := i) (fun o _ => ?_) hi ?_
  · unfold rfN
    by_cases g : pN c o = pN c i ∧ bfN c o i
    · rw [if_pos g, if_pos ⟨g.1.trans e, bf_tr g.2 b⟩]
      exact Nat.le_refl _
    · rw [if_neg g]
      exact Nat.zero_le _
  · unfold rfN
    rw [if_neg (fun g => bf_irr c i g.2), if_pos ⟨e, b⟩]
    exact Nat.zero_lt_one
theorem rank_bf {i j : Nat} (hj : j < knj c) (e : pN c i = pN c j) (lt : rankN c i < rankN c j) : bfN c i j := by
  by_cases d : i = j
  · subst d
    omega
  · rcases bf_tot (c := c) d with g | g
    · exact g
    · have := rank_mono hj e.symm g
      omega
theorem rank_inj {i j : Nat} (hi : i < knj c) (hj : j < knj c) (e : pN c i = pN c j) (er : rankN c i = rankN c j) : i = j := by
  by_cases d : i = j
  · exact d
  · rcases bf_tot (c := c) d with g | g
    · have := rank_mono hi e g
      omega
    · have := rank_mono hj e.symm g
      omega
theorem rank_many {j : Nat} (hj : j < knj c) : rankN c j < manyN c (pN c j) := by
  refine su_lt (i := j) (fun o _ => ?_) hj ?_
  · unfold rfN mnN
    by_cases g : pN c o = pN c j ∧ bfN c o j
    · rw [if_pos g, if_pos g.1]
      exact Nat.le_refl _
    · rw [if_neg g]
      exact Nat.zero_le _
  · unfold rfN mnN
    rw [if_neg (fun g => bf_irr c j g.2), if_pos rfl]
    exact Nat.zero_lt_one
/-- the sum of w over the jobs on k of a rank below M -/
def lwN (c : CS) (k M : Nat) (w : Nat → Nat) (j : Nat) : Nat := if pN c j = k ∧ rankN c j < M then w j else 0
theorem lw_0 (k : Nat) (w : Nat → Nat) : su (lwN c k 0 w) (knj c) = 0 := su_zero (fun j _ => if_neg (fun q => Nat.not_lt_zero _ q.2))
theorem lw_step {k M j : Nat} (w : Nat → Nat) (hj : j < knj c) (hp : pN c j = k) (hr : rankN c j = M) : su (lwN c k (M + 1) w) (knj c) = su (lwN c k M w) (knj c) + w j := by
  have q := su_chg (f := lwN c k (M + 1) w) (g := lwN c k M w) (j := j) (n := knj c) hj (fun i hi ne => by
    unfold lwN
    by_cases g : pN c i = k
    · have nr : rankN c i ≠ M := fun e => ne (rank_inj hi hj (g.trans hp.symm) (e.trans hr.symm))
      by_cases g2 : rankN c i < M
      · rw [if_pos ⟨g, by omega⟩, if_pos ⟨g, g2⟩]
      · rw [if_neg (fun q => by omega), if_neg (fun q => g2 q.2)]
    · rw [if_neg (fun q => g q.1), if_neg (fun q => g q.1)])
  rw [show lwN c k M w j = 0 from if_neg (fun q => by omega), show lwN c k (M + 1) w j = w j from if_pos ⟨hp, by omega⟩] at q
  omega
theorem lw_all (k : Nat) (w : Nat → Nat) : su (lwN c k (manyN c k) w) (knj c) = su (fun j => if pN c j = k then w j else 0) (knj c) := su_cong (fun j hj => by
  unfold lwN
  by_cases g : pN c j = k
  · rw [if_pos g, if_pos ⟨g, by rw [← g]; exact rank_many hj⟩]
  · rw [if_neg g, if_neg (fun q => g q.1)])
theorem rank_ex (k : Nat) : ∀ M, M ≤ manyN c k → su (lwN c k M (fun _ => 1)) (knj c) = M ∧ (M < manyN c k → ∃ j, j < knj c ∧ pN c j = k ∧ rankN c j = M) := by
  have ex : ∀ M, su (lwN c k M (fun _ => 1)) (knj c) = M → M < manyN c k → ∃ j, j < knj c ∧ pN c j = k ∧ rankN c j = M := by
    intro M e lt
    have h1 : ∃ r, ∃ j, j < knj c ∧ pN c j = k ∧ M ≤ rankN c j ∧ rankN c j = r := by
      refine Classical.byContradiction (fun no => ?_)
      have e2 : su (lwN c k M (fun _ => 1)) (knj c) = manyN c k := su_cong (fun j hj => by
        unfold lwN mnN
        by_cases g : pN c j = k
        · rw [if_pos g, if_pos ⟨g, Nat.lt_of_not_le (fun q => no ⟨_, j, hj, g, q, rfl⟩)⟩]
        · rw [if_neg g, if_neg (fun q => g q.1)])
      omega
    obtain ⟨r, ⟨j, hj, hp, hM, hr⟩, hmin⟩ := pk_least _ h1
    refine ⟨j, hj, hp, ?_⟩
    have e3 : rankN c j = su (lwN c k M (fun _ => 1)) (knj c) := su_cong (fun o ho => by
      unfold rfN lwN
      by_cases g : pN c o = k
      · by_cases b : bfN c o j
        · have lt2 := rank_mono ho (g.trans hp.symm) b
          rw [if_pos ⟨g.trans hp.symm, b⟩, if_pos ⟨g, Nat.lt_of_not_le (fun q => hmin (rankN c o) (by omega) ⟨o, ho, g, q, rfl⟩)⟩]
        · rw [if_neg (fun q => b q.2), if_neg (fun q => b (rank_bf hj (g.trans hp.symm) (by omega)))]
      · rw [if_neg (fun q => g (q.1.trans hp)), if_neg (fun q => g q.1)])
    omega
  intro M
  induction M with
  | zero => exact fun _ => ⟨lw_0 k _, ex 0 (lw_0 k _)⟩
  | succ M ih =>
    intro hM
    obtain ⟨e, q⟩ := ih (by omega)
    obtain ⟨j, hj, hp, hr⟩ := q (by omega)
    have e2 : su (lwN c k (M + 1) (fun _ => 1)) (knj c) = M + 1 := by
      rw [lw_step (fun _ => 1) hj hp hr, e]
    exact ⟨e2, ex _ e2⟩
theorem lv_up (h : CX s c) {k : Nat} (hk : k < 6) {x : Nat} (hx : x < 2 ^ 31) : ∀ n i, i + n ≤ knj c → (lvF c (nI k) (nI x) n i = -9 ∧ ∀ j, i ≤ j → j < i + n → ¬ (pN c j = k ∧ rankN c j = x)) ∨ ∃ j, j < knj c ∧ lvF c (nI k) (nI x) n i = nI j ∧ pN c j = k ∧ rankN c j = x
  | 0, i, _ => Or.inl ⟨rfl, fun j a b => by omega⟩
  | n + 1, i, hn => by
    have hi : i < knj c := by omega
    have e : (aT 24 (kpl c) (nI i) = nI k ∧ sBf c (nI i) = nI x) ↔ (pN c i = k ∧ rankN c i = x) := by
      rw [bf_eq h hi]
      exact and_congr (cpk h hi hk) (nI_eq (by have := rank_le h i; omega) hx)
    unfold lvF
    by_cases g : pN c i = k ∧ rankN c i = x
    · rw [if_pos (e.mpr g)]
      exact Or.inr ⟨i, hi, rfl, g.1, g.2⟩
    · rw [if_neg (fun w => g (e.mp w))]
      rcases lv_up h hk hx n (i + 1) (by omega) with ⟨a, b⟩ | q
      · refine Or.inl ⟨a, fun j q1 q2 => ?_⟩
        by_cases d : j = i
        · rw [d]
          exact g
        · exact b j (by omega) (by omega)
      · exact Or.inr q
theorem leav_ok (h : CX s c) {k : Nat} (hk : k < 6) {x : Nat} (hx : x < manyN c k) : ∃ j, j < knj c ∧ sLeaving c (nI k) (nI x) = nI j ∧ pN c j = k ∧ rankN c j = x := by
  have m := many_le c k
  have n := ci_nj h
  obtain ⟨j, hj, hp, hr⟩ := (rank_ex k x (by omega)).2 hx
  rcases lv_up h hk (show x < 2 ^ 31 by omega) (knj c) 0 (by omega) with ⟨_, b⟩ | q
  · exact absurd ⟨hp, hr⟩ (b j (Nat.zero_le _) (by omega))
  · exact q
theorem leav_no (h : CX s c) {k : Nat} (hk : k < 6) {x : Nat} (hx : manyN c k ≤ x) (hx2 : x < 2 ^ 31) : sLeaving c (nI k) (nI x) = -9 := by
  rcases lv_up h hk hx2 (knj c) 0 (by omega) with ⟨a, _⟩ | ⟨j, hj, e, hp, hr⟩
  · exact a
  · have := rank_many hj
    rw [hp] at this
    omega
/-! the prices of a server's jobs -/
def qkN (c : CS) (k j : Nat) : Nat := if pN c j = k then qN c j else 0
def prN (c : CS) (k : Nat) : Nat := su (qkN c k) (knj c)
theorem pr_le (h : CX s c) (k : Nat) : prN c k ≤ 2400 := by
  have h1 := su_bd (f := qkN c k) (B := 100) (n := knj c) (fun j hj => by unfold qkN; split; exact ci_q h hj; omega)
  have := ci_nj h
  show su (qkN c k) (knj c) ≤ 2400
  omega
theorem pr_up (h : CX s c) {k : Nat} (hk : k < 6) : ∀ n, n ≤ knj c → prF c (nI k) n = nI (su (qkN c k) n)
  | 0, _ => rfl
  | n + 1, hn => by
    have ih := pr_up h hk n (by omega)
    unfold prF
    rw [ih]
    show _ = nI (su (qkN c k) n + qkN c k n)
    by_cases g : pN c n = k
    · rw [if_pos ((cpk h hn hk).mpr g), cq h hn, nI_add, show qkN c k n = qN c n from if_pos g]
    · rw [if_neg (fun w => g ((cpk h hn hk).mp w)), show qkN c k n = 0 from if_neg g]
      rfl
theorem pr_eq (h : CX s c) {k : Nat} (hk : k < 6) : sPrices c (nI k) = nI (prN c k) := pr_up h hk _ (Nat.le_refl _)
theorem tk_pr {j : Nat} (hn : knj c ≤ 24) (hj : j < knj c) {k : Nat} (hk : k < 2 ^ 31) (x : Nat) : prN (sTake c (nI j) (nI k)) x + (if pN c j = x then qN c j else 0) = prN c x + (if k = x then qN c j else 0) := by
  have w := su_chg (f := qkN (sTake c (nI j) (nI k)) x) (g := qkN c x) (j := j) (n := knj c) hj (fun i _ hi => by
    unfold qkN
    rw [tk_p (by omega) hk, if_neg hi]
    rfl)
  have e : qkN (sTake c (nI j) (nI k)) x j = if k = x then qN c j else 0 := by
    unfold qkN
    rw [tk_p (by omega) hk, if_pos rfl]
    rfl
  rw [e] at w
  exact w
/-! closing -/
def clIn (c d : CS) (k i : Nat) : Prop := CX k d ∧ knv d = knv c ∧ knj d = knj c ∧ kop d = kop c ∧ knO d = knO c ∧ manyN d k + i = manyN c k ∧ kmo d = kmo c + nI i ∧ ∃ p, p + prN d k = prN c k ∧ kbu d = kbu c - nI p
theorem cl_in (h : CX s c) (hs : s < knv c) (ho : ¬ kop c s = 1) : ∀ i, i ≤ manyN c s → clIn c (clF c (nI s) i) s i
  | 0, _ => ⟨h, rfl, rfl, rfl, rfl, rfl, (Int32.add_zero _).symm, 0, Nat.zero_add _, (Int32.sub_zero _).symm⟩
  | i + 1, hi => by
    obtain ⟨C, nv, nj, op, nO, mm, mo, p, hp, bu⟩ := cl_in h hs ho i (by omega)
    unfold clF
    obtain ⟨d, ed⟩ : ∃ d, d = clF c (nI s) i := ⟨_, rfl⟩
    rw [← ed] at C nv nj op nO mm mo hp bu ⊢
    have s6 := ci_v h hs
    have hn := ci_nj C
    obtain ⟨j, hj, e1, hpj, -⟩ := leav_ok C s6 (x := 0) (by omega)
    have e1 : sLeaving d (nI s) 0 = nI j := e1
    obtain ⟨e, he, e6, e2, oe, -⟩ := empty_ok C (by omega)
    rw [e1, e2]
    have ne : e ≠ s := fun q => ho (by rw [← q, ← op]; exact oe)
    have T := tk_CX C hj (by omega) he oe (by omega)
    have M := tk_many hn hj (k := e) (by omega) s
    have P := tk_pr hn hj (k := e) (by omega) s
    rw [if_pos hpj, if_neg ne] at M P
    refine ⟨T, nv, nj, op, nO, by omega, ?_, p + qN d j, by omega, ?_⟩
    · show kmo d + 1 = _
      rw [mo, Int32.add_assoc, nI_1]
    · rw [tk_bu C hj, bu, Int32.sub_sub, nI_add]
end LV
/-- a close that is possible -/
theorem cl_ok {c : CS} (h : CI c) {k : Nat} (hk : k < knv c) (ho : kop c k = 1) (h1 : 1 < opN c) : rClose c (nI k) = nI (manyN c k) ∧ CI (sClose c (nI k)) ∧ knv (sClose c (nI k)) = knv c ∧ knj (sClose c (nI k)) = knj c ∧ kmo (sClose c (nI k)) = kmo c + nI (manyN c k) ∧ kbu (sClose c (nI k)) = kbu c - nI (prN c k) ∧ ¬ kop (sClose c (nI k)) k = 1 ∧ loadN (sClose c (nI k)) k = 0 := by
  have k6 := ci_v h hk
  have S := sht_CX h hk ho h1
  have op := sht_op (c := c) k6
  have nk : ¬ kop (sShut c (nI k)) k = 1 := by
    rw [op, up_s]
    decide
  have eb := bc_many S k6
  obtain ⟨C, nv, nj, op2, nO, mm, mo, p, hp, bu⟩ := cl_in S hk nk (manyN c k) (Nat.le_refl _)
  have em : manyN (sShut c (nI k)) k = manyN c k := rfl
  have ep : prN (sShut c (nI k)) k = prN c k := rfl
  have e : sClose c (nI k) = clF (sShut c (nI k)) (nI k) (manyN c k) := by
    unfold sClose
    rw [eb, em]
  rw [← e] at C nv nj op2 nO mm mo hp bu
  have m0 : manyN (sClose c (nI k)) k = 0 := by omega
  have p0 : prN (sClose c (nI k)) k = 0 := su_zero (fun j hj => by
    unfold qkN
    rw [if_neg]
    intro q
    have := su_pt (f := mnN (sClose c (nI k)) k) (n := knj (sClose c (nI k))) (j := j) hj
    rw [show mnN (sClose c (nI k)) k j = 1 from if_pos q] at this
    have m0 : su (mnN (sClose c (nI k)) k) (knj (sClose c (nI k))) = 0 := m0
    omega)
  have C2 := CX_CI C m0
  have nk2 : ¬ kop (sClose c (nI k)) k = 1 := by
    rw [op2]
    exact nk
  refine ⟨?_, C2, nv, nj, mo, ?_, nk2, load_shut C2 (by omega) (Or.inr nk2)⟩
  · unfold rClose
    rw [eb, em]
  · rw [bu, show p = prN c k by omega]
    rfl
