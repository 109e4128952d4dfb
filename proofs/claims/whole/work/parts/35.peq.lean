/-! ===== the number of bits of a set ===== -/
theorem nx_and (a b : Nat) : nI a &&& nI b = nI (a &&& b) := by
  apply Int32.toBitVec_inj.1
  show BitVec.ofNat 32 a &&& BitVec.ofNat 32 b = BitVec.ofNat 32 (a &&& b)
  apply BitVec.eq_of_getLsbD_eq
  intro i hi
  simp [hi]
def pA (a : Nat) : Nat := a - (a / 2 &&& 85)
def pB (a : Nat) : Nat := (a &&& 51) + (a / 4 &&& 51)
def pQ (a : Nat) : Nat := pB (pA a)
def pP (a : Nat) : Nat := (pQ a + pQ a / 16) % 16
theorem and2 {x y m k : Nat} (hx : x < 256) (hm : m < 256) : (x + 256 * y) &&& (m + 256 * k) = (x &&& m) + 256 * (y &&& k) := by
  have e1 := Nat.and_div_two_pow (a := x + 256 * y) (b := m + 256 * k) (n := 8)
  have e2 := Nat.and_mod_two_pow (a := x + 256 * y) (b := m + 256 * k) (n := 8)
  rw [show (x + 256 * y) / 2 ^ 8 = y from by omega, show (m + 256 * k) / 2 ^ 8 = k from by omega] at e1
  rw [show (x + 256 * y) % 2 ^ 8 = x from by omega, show (m + 256 * k) % 2 ^ 8 = m from by omega] at e2
  omega
theorem and3 {x0 x1 x2 m0 m1 m2 : Nat} (h0 : x0 < 256) (h1 : x1 < 256) (g0 : m0 < 256) (g1 : m1 < 256) : (x0 + 256 * x1 + 65536 * x2) &&& (m0 + 256 * m1 + 65536 * m2) = (x0 &&& m0) + 256 * (x1 &&& m1) + 65536 * (x2 &&& m2) := by
  rw [show x0 + 256 * x1 + 65536 * x2 = x0 + 256 * (x1 + 256 * x2) from by omega, show m0 + 256 * m1 + 65536 * m2 = m0 + 256 * (m1 + 256 * m2) from by omega, and2 h0 g0, and2 h1 g1]
  omega
theorem q_a : ∀ x, x < 128 → ∀ e, e < 2 → (x + 128 * e) &&& 85 = x &&& 85 := by decide +kernel
theorem q_b : ∀ x, x < 64 → ∀ e, e < 4 → (x + 64 * e) &&& 51 = x &&& 51 := by decide +kernel
theorem q_1 : ∀ x, x < 256 → x &&& 21845 = x &&& 85 := by decide +kernel
theorem q_2 : ∀ x, x < 256 → x &&& 13107 = x &&& 51 := by decide +kernel
theorem q_3 : ∀ x, x < 256 → x &&& 3855 = x &&& 15 := by decide +kernel
theorem q_q : ∀ a, a < 256 → pQ a % 16 ≤ 4 ∧ pQ a / 16 ≤ 4 ∧ pA a < 256 ∧ pP a ≤ 8 := by decide +kernel
theorem q_p : ∀ a, a < 256 → pP a = fb_ct (fun i => a.testBit i) 8 := by decide +kernel
theorem st_1 {a b c : Nat} (ha : a < 256) (hb : b < 256) (hc : c < 256) : bc1 (nI (a + 256 * b + 65536 * c)) = nI (pA a + 256 * pA b + 65536 * pA c) := by
  unfold bc1
  rw [pk_ushrN (by omega) 1 1 (by decide)]
  show nI _ - (nI _ &&& nI (85 + 256 * 85 + 65536 * 21845)) = _
  have la : a / 2 &&& 85 ≤ a / 2 := Nat.and_le_left
  have lb : b / 2 &&& 85 ≤ b / 2 := Nat.and_le_left
  have lc : c / 2 &&& 85 ≤ c / 2 := Nat.and_le_left
  rw [nx_and, show (a + 256 * b + 65536 * c) / 2 ^ 1 = (a / 2 + 128 * (b % 2)) + 256 * (b / 2 + 128 * (c % 2)) + 65536 * (c / 2) from by omega, and3 (by omega) (by omega) (by decide) (by decide), q_a _ (by omega) _ (by omega), q_a _ (by omega) _ (by omega), q_1 _ (by omega), pk_sub (by omega)]
  unfold pA
  congr 1
  omega
theorem st_2 {a b c : Nat} (ha : a < 256) (hb : b < 256) (hc : c < 256) : bc2 (nI (a + 256 * b + 65536 * c)) = nI (pB a + 256 * pB b + 65536 * pB c) := by
  unfold bc2
  rw [pk_ushrN (by omega) 2 2 (by decide)]
  show (nI _ &&& nI (51 + 256 * 51 + 65536 * 13107)) + (nI _ &&& nI (51 + 256 * 51 + 65536 * 13107)) = _
  rw [nx_and, nx_and, show (a + 256 * b + 65536 * c) / 2 ^ 2 = (a / 4 + 64 * (b % 4)) + 256 * (b / 4 + 64 * (c % 4)) + 65536 * (c / 4) from by omega, and3 ha hb (by decide) (by decide), and3 (by omega) (by omega) (by decide) (by decide), q_b _ (by omega) _ (by omega), q_b _ (by omega) _ (by omega), q_2 _ (by omega), q_2 _ (by omega), nI_add]
  unfold pB
  congr 1
  omega
theorem st_3 {a b c : Nat} (ha : a < 256) (hb : b < 256) (hc : c < 256) : bc3 (nI (pQ a + 256 * pQ b + 65536 * pQ c)) = nI (pP a + 256 * pP b + 65536 * pP c) := by
  have qa := q_q a ha
  have qb := q_q b hb
  have qc := q_q c hc
  unfold bc3
  rw [pk_ushrN (by omega) 4 4 (by decide), nI_add]
  show nI _ &&& nI (15 + 256 * 15 + 65536 * 3855) = _
  rw [nx_and, show pQ a + 256 * pQ b + 65536 * pQ c + (pQ a + 256 * pQ b + 65536 * pQ c) / 2 ^ 4 = (pQ a + pQ a / 16 + 16 * (pQ b % 16)) + 256 * (pQ b + pQ b / 16 + 16 * (pQ c % 16)) + 65536 * (pQ c + pQ c / 16) from by omega, and3 (by omega) (by omega) (by decide) (by decide), q_3 _ (by omega)]
  have m : ∀ x, x &&& 15 = x % 16 := fun x => Nat.and_two_pow_sub_one_eq_mod x 4
  rw [m, m, m]
  unfold pP
  congr 1
  omega
theorem st_n {a b c : Nat} (ha : a < 256) (hb : b < 256) (hc : c < 256) : bcN (nI (a + 256 * b + 65536 * c)) = pP a + pP b + pP c := by
  have qa := q_q a ha
  have qb := q_q b hb
  have qc := q_q c hc
  unfold bcN
  rw [st_1 ha hb hc, st_2 qa.2.2.1 qb.2.2.1 qc.2.2.1]
  rw [show pB (pA a) + 256 * pB (pA b) + 65536 * pB (pA c) = pQ a + 256 * pQ b + 65536 * pQ c from rfl, st_3 ha hb hc]
  unfold bc4
  rw [pk_ushrN (by omega) 8 8 (by decide), nI_add]
  unfold bc5
  rw [pk_ushrN (by omega) 16 16 (by decide), nI_add, pk_tn (by omega)]
  have w1 : (pP a + 256 * pP b + 65536 * pP c) / 2 ^ 8 = pP b + 256 * pP c := by omega
  rw [w1]
  have w2 : (pP a + 256 * pP b + 65536 * pP c + (pP b + 256 * pP c)) / 2 ^ 16 = pP c := by omega
  rw [w2]
  omega
theorem tb_lo {a y i : Nat} (ha : a < 256) (hi : i < 8) : (a + 256 * y).testBit i = a.testBit i := by
  have t := Nat.testBit_mod_two_pow (a + 256 * y) 8 i
  rw [show (a + 256 * y) % 2 ^ 8 = a from by omega, decide_eq_true hi, Bool.true_and] at t
  exact t.symm
theorem tb_hi {a y : Nat} (i : Nat) (ha : a < 256) : (a + 256 * y).testBit (8 + i) = y.testBit i := by
  have t := Nat.testBit_div_two_pow (n := 8) (a + 256 * y) i
  rw [show (a + 256 * y) / 2 ^ 8 = y from by omega] at t
  rw [Nat.add_comm 8 i]
  exact t.symm
theorem bc_ct (x : Int32) (h : ∀ i, 24 ≤ i → bt x i = false) : bcN x = fb_ct (fun i => bt x i) 24 := by
  obtain ⟨X, hX⟩ : ∃ X, X = x.toBitVec.toNat := ⟨_, rfl⟩
  have hb : ∀ i, bt x i = X.testBit i := fun i => by rw [hX]; rfl
  have hl : X < 2 ^ 24 := Nat.lt_pow_two_of_testBit X (fun i hi => (hb i).symm.trans (h i hi))
  have hx : x = nI X := by
    rw [hX]
    exact Int32.toBitVec_inj.mp (by show _ = BitVec.ofNat 32 _; simp)
  obtain ⟨a, ea⟩ : ∃ a, a = X % 256 := ⟨_, rfl⟩
  obtain ⟨b, eb⟩ : ∃ b, b = X / 256 % 256 := ⟨_, rfl⟩
  obtain ⟨c, ec⟩ : ∃ c, c = X / 65536 := ⟨_, rfl⟩
  have ha : a < 256 := by omega
  have hbb : b < 256 := by omega
  have hc : c < 256 := by omega
  have e : X = a + 256 * b + 65536 * c := by omega
  have e2 : X = a + 256 * (b + 256 * c) := by omega
  rw [fb_ct_cong (q := fun i => X.testBit i) (fun i _ => hb i), hx]
  rw [show bcN (nI X) = pP a + pP b + pP c from by rw [e]; exact st_n ha hbb hc]
  have s1 := fb_ct_split (fun i => X.testBit i) 8 16
  have s2 := fb_ct_split (fun k => X.testBit (8 + k)) 8 8
  have t1 : fb_ct (fun i => X.testBit i) 8 = pP a := by
    rw [q_p a ha]
    exact fb_ct_cong (fun i hi => by rw [e2]; exact tb_lo ha hi)
  have t2 : fb_ct (fun k => X.testBit (8 + k)) 8 = pP b := by
    rw [q_p b hbb]
    exact fb_ct_cong (fun i hi => by rw [e2, tb_hi i ha]; exact tb_lo hbb hi)
  have t3 : fb_ct (fun k => X.testBit (8 + (8 + k))) 8 = pP c := by
    rw [q_p c hc]
    exact fb_ct_cong (fun i hi => by rw [e2, tb_hi _ ha, tb_hi i hbb])
  show pP a + pP b + pP c = fb_ct (fun i => X.testBit i) (8 + 16)
  rw [s1, t1, show fb_ct (fun k => X.testBit (8 + k)) 16 = fb_ct (fun k => X.testBit (8 + k)) (8 + 8) from rfl, s2, t2, t3, Nat.add_assoc]
theorem on_bt (s : Nat → Int32) (k : Int32) {i : Nat} (hi : i < 32) : ∀ n, n ≤ 24 → bt (mOnF s k n) i = (decide (i < n) && onS s k i)
  | 0, _ => by
    rw [decide_eq_false (Nat.not_lt_zero i), Bool.false_and]
    exact b_0 i
  | n + 1, hn => by
    have ih := on_bt s k hi n (by omega)
    unfold mOnF
    by_cases g : mOf s (nI n) 2 = k
    · rw [if_pos g, b_or, ih, bt_one (by omega) hi]
      by_cases d : i = n
      · rw [d, onS_t.mpr g, decide_eq_true rfl, Bool.or_true, decide_eq_true (Nat.lt_succ_self n)]
        rfl
      · rw [decide_eq_false d, Bool.or_false, decide_eq_decide.mpr (show i < n ↔ i < n + 1 by omega)]
    · rw [if_neg g, Int32.or_zero, ih]
      by_cases d : i = n
      · have ng : onS s k n = false := by
          cases q : onS s k n
          · rfl
          · exact absurd (onS_t.mp q) g
        rw [d, ng, Bool.and_false, Bool.and_false]
      · rw [decide_eq_decide.mpr (show i < n ↔ i < n + 1 by omega)]
theorem cnt_ct (s : Nat → Int32) (k : Int32) : ∀ n, mCnt s k n = fb_ct (onS s k) n
  | 0 => rfl
  | n + 1 => by
    unfold mCnt
    rw [cnt_ct s k n, fb_ct_succ]
    by_cases g : mOf s (nI n) 2 = k
    · rw [if_pos g, if_pos (onS_t.mpr g)]
    · rw [if_neg g, if_neg (fun q => g (onS_t.mp q)), Nat.add_zero]
theorem bc_on {s : Nat → Int32} (k : Int32) {nj : Nat} (hn : nj ≤ 24) : bcN (mOnF s k nj) = mCnt s k nj := by
  have e := bc_ct (mOnF s k nj) (fun i hi => by
    rcases Nat.lt_or_ge i 32 with q | q
    · rw [on_bt s k q nj hn, decide_eq_false (by omega), Bool.false_and]
    · exact b_big q)
  rw [e, cnt_ct]
  have sp := fb_ct_split (fun i => bt (mOnF s k nj) i) nj (24 - nj)
  rw [show nj + (24 - nj) = 24 from by omega] at sp
  have z0 : fb_ct (fun i => bt (mOnF s k nj) (nj + i)) (24 - nj) = 0 := fb_ct_zero.mpr (fun i hi => by
    rw [on_bt s k (by omega) nj hn, decide_eq_false (by omega), Bool.false_and])
  rw [sp, z0, Nat.add_zero]
  exact fb_ct_cong (fun i hi => by rw [on_bt s k (by omega) nj hn, decide_eq_true hi, Bool.true_and])
