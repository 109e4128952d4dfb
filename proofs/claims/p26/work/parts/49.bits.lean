def bt (x : Int32) (i : Nat) : Bool := x.toBitVec.getLsbD i
theorem b_ext {x y : Int32} (h : ∀ i, i < 32 → bt x i = bt y i) : x = y := Int32.toBitVec_inj.mp (BitVec.eq_of_getLsbD_eq (fun i hi => h i hi))
theorem b_or (x y : Int32) (i : Nat) : bt (x ||| y) i = (bt x i || bt y i) := by unfold bt; rw [Int32.toBitVec_or, BitVec.getLsbD_or]
theorem b_and (x y : Int32) (i : Nat) : bt (x &&& y) i = (bt x i && bt y i) := by unfold bt; rw [Int32.toBitVec_and, BitVec.getLsbD_and]
theorem b_xor (x y : Int32) (i : Nat) : bt (x ^^^ y) i = (bt x i ^^ bt y i) := by unfold bt; rw [Int32.toBitVec_xor, BitVec.getLsbD_xor]
theorem b_big {x : Int32} {i : Nat} (h : 32 ≤ i) : bt x i = false := BitVec.getLsbD_of_ge _ _ h
theorem b_255 (i : Nat) : bt 255 i = decide (i < 8) := by
  rcases Nat.lt_or_ge i 32 with h | h
  · exact (by decide +kernel : ∀ i, i < 32 → bt 255 i = decide (i < 8)) i h
  · rw [b_big h, decide_eq_false (by omega)]
theorem b_65535 (i : Nat) : bt 65535 i = decide (i < 16) := by
  rcases Nat.lt_or_ge i 32 with h | h
  · exact (by decide +kernel : ∀ i, i < 32 → bt 65535 i = decide (i < 16)) i h
  · rw [b_big h, decide_eq_false (by omega)]
theorem b_m1 : ∀ i, i < 32 → bt (-1) i = true := by decide +kernel
theorem b_0 (i : Nat) : bt 0 i = false := BitVec.getLsbD_zero
theorem s_l : ∀ n, n < 32 → ((nI n &&& 31).toBitVec.smod 32).toNat = n := by decide +kernel
theorem s_u : ∀ n, n < 32 → (((nI n).toUInt32 &&& Int32.toUInt32 31).toBitVec % 32).toNat = n := by decide +kernel
theorem b_shl (n : Nat) (hn : n < 32) (x : Int32) {i : Nat} (hi : i < 32) : bt (x <<< (nI n &&& 31)) i = (decide (n ≤ i) && bt x (i - n)) := by
  unfold bt
  rw [Int32.toBitVec_shiftLeft]
  show (x.toBitVec <<< ((nI n &&& 31).toBitVec.smod 32).toNat).getLsbD i = _
  rw [s_l n hn, BitVec.getLsbD_shiftLeft]
  rcases Nat.lt_or_ge i n with h | h
  · simp [h, Nat.not_le.mpr h]
  · simp [hi, h, Nat.not_lt.mpr h]
theorem b_ushr (n : Nat) (hn : n < 32) (x : Int32) (i : Nat) : bt ((x.toUInt32 >>> ((nI n).toUInt32 &&& Int32.toUInt32 31)).toInt32) i = bt x (n + i) := by
  show (x.toUInt32 >>> ((nI n).toUInt32 &&& Int32.toUInt32 31)).toBitVec.getLsbD i = x.toUInt32.toBitVec.getLsbD (n + i)
  rw [UInt32.toBitVec_shiftRight]
  show (x.toUInt32.toBitVec >>> (((nI n).toUInt32 &&& Int32.toUInt32 31).toBitVec % 32).toNat).getLsbD i = _
  rw [s_u n hn, BitVec.getLsbD_ushiftRight]
theorem b_sshr (n : Nat) (hn : n < 32) (x : Int32) {i : Nat} (hi : i < 32) : bt (x >>> (nI n &&& 31)) i = if n + i < 32 then bt x (n + i) else bt x 31 := by
  unfold bt
  rw [Int32.toBitVec_shiftRight]
  show (x.toBitVec.sshiftRight ((nI n &&& 31).toBitVec.smod 32).toNat).getLsbD i = _
  rw [s_l n hn, BitVec.getLsbD_sshiftRight, BitVec.msb_eq_getLsbD_last]
  simp [hi]
theorem b_shl8 (x : Int32) {i : Nat} (hi : i < 32) : bt (x <<< ((8 : Int32) &&& 31)) i = (decide (8 ≤ i) && bt x (i - 8)) := b_shl 8 (by omega) x hi
theorem b_shl16 (x : Int32) {i : Nat} (hi : i < 32) : bt (x <<< ((16 : Int32) &&& 31)) i = (decide (16 ≤ i) && bt x (i - 16)) := b_shl 16 (by omega) x hi
theorem b_shl24 (x : Int32) {i : Nat} (hi : i < 32) : bt (x <<< ((24 : Int32) &&& 31)) i = (decide (24 ≤ i) && bt x (i - 24)) := b_shl 24 (by omega) x hi
theorem b_sshr8 (x : Int32) {i : Nat} (hi : i < 32) : bt (x >>> ((8 : Int32) &&& 31)) i = if 8 + i < 32 then bt x (8 + i) else bt x 31 := b_sshr 8 (by omega) x hi
def fb_ct (p : Nat → Bool) : Nat → Nat
  | 0 => 0
  | n + 1 => fb_ct p n + (if p n then 1 else 0)
theorem fb_ct_succ (p : Nat → Bool) (n : Nat) : fb_ct p (n + 1) = fb_ct p n + (if p n then 1 else 0) := rfl
theorem fb_ct_le (p : Nat → Bool) : ∀ n, fb_ct p n ≤ n
  | 0 => Nat.le_refl _
  | n + 1 => by
    have h := fb_ct_le p n
    rw [fb_ct_succ]
    split <;> omega
theorem fb_ct_step (p : Nat → Bool) (m : Nat) : ∀ n, fb_ct p m ≤ fb_ct p (m + n)
  | 0 => Nat.le_refl _
  | n + 1 => by
    have h := fb_ct_step p m n
    show fb_ct p m ≤ fb_ct p (m + n + 1)
    rw [fb_ct_succ]
    omega
theorem fb_ct_mono (p : Nat → Bool) {m n : Nat} (h : m ≤ n) : fb_ct p m ≤ fb_ct p n := by
  have := fb_ct_step p m (n - m)
  rwa [Nat.add_sub_cancel' h] at this
theorem fb_ct_cong {p q : Nat → Bool} : ∀ {n : Nat}, (∀ k, k < n → p k = q k) → fb_ct p n = fb_ct q n
  | 0, _ => rfl
  | n + 1, h => by
    rw [fb_ct_succ, fb_ct_succ, fb_ct_cong (fun k hk => h k (by omega)), h n (by omega)]
/-- one place changed -/
theorem fb_ct_out (p : Nat → Bool) (b : Bool) {i n : Nat} (h : n ≤ i) : fb_ct (fun k => if k = i then b else p k) n = fb_ct p n :=
  fb_ct_cong fun k hk => if_neg (by omega)
theorem fb_ct_upd (p : Nat → Bool) (b : Bool) {i : Nat} : ∀ {n : Nat}, i < n → fb_ct (fun k => if k = i then b else p k) n + (if p i then 1 else 0) = fb_ct p n + (if b then 1 else 0)
  | 0, h => absurd h (Nat.not_lt_zero i)
  | n + 1, h => by
    rw [fb_ct_succ, fb_ct_succ]
    rcases Nat.lt_or_ge i n with q | q
    · have := fb_ct_upd p b q
      have e : (if n = i then b else p n) = p n := if_neg (by omega)
      rw [e]
      omega
    · have e : i = n := by omega
      subst e
      rw [fb_ct_out p b (Nat.le_refl _)]
      simp only [if_true]
      omega
theorem fb_ct_sub {p q : Nat → Bool} : ∀ {n : Nat}, (∀ k, k < n → p k = true → q k = true) → fb_ct p n ≤ fb_ct q n
  | 0, _ => Nat.le_refl _
  | n + 1, h => by
    have h1 := fb_ct_sub (n := n) (p := p) (q := q) (fun k hk => h k (by omega))
    have h2 := h n (by omega)
    rw [fb_ct_succ, fb_ct_succ]
    cases hp : p n <;> cases hq : q n <;> simp_all <;> omega
theorem fb_ct_or {p q : Nat → Bool} : ∀ {n : Nat}, (∀ k, k < n → ¬ (p k = true ∧ q k = true)) → fb_ct (fun k => p k || q k) n = fb_ct p n + fb_ct q n
  | 0, _ => rfl
  | n + 1, h => by
    have h1 := fb_ct_or (n := n) (p := p) (q := q) (fun k hk => h k (by omega))
    have h2 := h n (by omega)
    rw [fb_ct_succ, fb_ct_succ, fb_ct_succ, h1]
    cases hp : p n <;> cases hq : q n <;> simp_all <;> omega
theorem fb_ct_not (p : Nat → Bool) : ∀ n, fb_ct p n + fb_ct (fun k => !p k) n = n
  | 0 => rfl
  | n + 1 => by
    have h := fb_ct_not p n
    rw [fb_ct_succ, fb_ct_succ]
    cases p n <;> simp <;> omega
theorem fb_ct_split (p : Nat → Bool) (m : Nat) : ∀ n, fb_ct p (m + n) = fb_ct p m + fb_ct (fun k => p (m + k)) n
  | 0 => rfl
  | n + 1 => by
    have h := fb_ct_split p m n
    show fb_ct p (m + n + 1) = _
    rw [fb_ct_succ, fb_ct_succ, h, Nat.add_assoc]
theorem fb_ct_zero {p : Nat → Bool} : ∀ {n : Nat}, fb_ct p n = 0 ↔ ∀ k, k < n → p k = false
  | 0 => ⟨fun _ k hk => absurd hk (Nat.not_lt_zero k), fun _ => rfl⟩
  | n + 1 => by
    have h := fb_ct_zero (p := p) (n := n)
    rw [fb_ct_succ]
    constructor
    · intro e k hk
      have e1 : fb_ct p n = 0 := by omega
      rcases Nat.lt_or_ge k n with q | q
      · exact h.mp e1 k q
      · have ek : k = n := by omega
        subst ek
        cases hp : p k
        · rfl
        · simp [hp] at e
    · intro a
      rw [h.mpr (fun k hk => a k (by omega)), a n (by omega)]
      rfl
theorem fb_ct_pos {p : Nat → Bool} {n : Nat} : 0 < fb_ct p n ↔ ∃ k, k < n ∧ p k = true := by
  constructor
  · intro h
    refine Classical.byContradiction fun hx => ?_
    have := fb_ct_zero.mpr (fun k hk => by
      cases hp : p k
      · rfl
      · exact absurd ⟨k, hk, hp⟩ hx : ∀ k, k < n → p k = false)
    omega
  · rintro ⟨k, hk, hp⟩
    rcases Nat.eq_zero_or_pos (fb_ct p n) with e | e
    · have := fb_ct_zero.mp e k hk
      rw [this] at hp
      cases hp
    · exact e
theorem fb_ct_all {p : Nat → Bool} {n : Nat} : fb_ct p n = n ↔ ∀ k, k < n → p k = true := by
  have h := fb_ct_not p n
  constructor
  · intro e k hk
    have z : fb_ct (fun k => !p k) n = 0 := by omega
    have := fb_ct_zero.mp z k hk
    cases hp : p k
    · simp [hp] at this
    · rfl
  · intro a
    have z : fb_ct (fun k => !p k) n = 0 := fb_ct_zero.mpr (fun k hk => by simp [a k hk])
    omega
/-- the k-th place with the property -/
theorem fb_ct_kth {p : Nat → Bool} {k : Nat} : ∀ {n : Nat}, k < fb_ct p n → ∃ i, i < n ∧ p i = true ∧ fb_ct p i = k
  | 0, h => absurd h (Nat.not_lt_zero k)
  | n + 1, h => by
    rcases Nat.lt_or_ge k (fb_ct p n) with q | q
    · obtain ⟨i, h1, h2⟩ := fb_ct_kth q
      exact ⟨i, by omega, h2⟩
    · rw [fb_ct_succ] at h
      cases hp : p n
      · simp [hp] at h; omega
      · simp [hp] at h
        exact ⟨n, by omega, hp, by omega⟩
theorem fb_ct_kth_one {p : Nat → Bool} {i j : Nat} (hi : p i = true) (hj : p j = true) (e : fb_ct p i = fb_ct p j) : i = j := by
  have key : ∀ a b : Nat, a < b → p a = true → fb_ct p a < fb_ct p b := by
    intro a b hab ha
    have h := fb_ct_mono p (show a + 1 ≤ b from hab)
    rw [fb_ct_succ, ha] at h
    simp at h
    omega
  rcases Nat.lt_trichotomy i j with q | q | q
  · have := key i j q hi; omega
  · exact q
  · have := key j i q hj; omega
/-! one bit of a number -/
theorem b_1 : ∀ i, i < 32 → bt 1 i = decide (i = 0) := by decide +kernel
theorem bit_v (x : Int32) {k : Nat} (hk : k < 32) : ((x >>> (nI k &&& 31)) &&& 1) = if bt x k = true then 1 else 0 := by
  apply b_ext
  intro i hi
  rw [b_and, b_sshr k hk x hi, b_1 i hi]
  by_cases h : i = 0
  · subst h
    rw [if_pos (by omega), Nat.add_zero]
    cases q : bt x k
    · simp [b_0]
    · simp [b_1 0 (by decide)]
  · rw [decide_eq_false h, Bool.and_false]
    cases q : bt x k
    · simp [b_0]
    · simp [b_1 i hi, h]
theorem bit_on {x : Int32} {k : Nat} (hk : k < 32) : ((x >>> (nI k &&& 31)) &&& 1) = 1 ↔ bt x k = true := by
  rw [bit_v x hk]
  cases bt x k <;> decide
theorem bit_off {x : Int32} {k : Nat} (hk : k < 32) : ((x >>> (nI k &&& 31)) &&& 1) = 0 ↔ bt x k = false := by
  rw [bit_v x hk]
  cases bt x k <;> decide
theorem bt_one {n k : Nat} (hn : n < 32) (hk : k < 32) : bt (1 <<< (nI n &&& 31)) k = decide (k = n) := by
  rw [b_shl n hn 1 hk]
  by_cases h : n ≤ k
  · rw [decide_eq_true h, Bool.true_and, b_1 _ (by omega)]
    exact decide_eq_decide.mpr (by omega)
  · rw [decide_eq_false h, Bool.false_and, decide_eq_false (by omega)]
theorem bt_set (x : Int32) {n k : Nat} (hn : n < 32) (hk : k < 32) : bt (x ||| (1 <<< (nI n &&& 31))) k = (bt x k || decide (k = n)) := by rw [b_or, bt_one hn hk]
theorem bt_clr (x : Int32) {n k : Nat} (hn : n < 32) (hk : k < 32) : bt (x &&& ((1 <<< (nI n &&& 31)) ^^^ (-1))) k = (bt x k && !decide (k = n)) := by
  rw [b_and, b_xor, bt_one hn hk, b_m1 k hk, Bool.xor_true]
/-! ===== the number of bits of a set ===== -/
theorem nx_and (a b : Nat) : nI a &&& nI b = nI (a &&& b) := by
  apply Int32.toBitVec_inj.1
  show BitVec.ofNat 32 a &&& BitVec.ofNat 32 b = BitVec.ofNat 32 (a &&& b)
  apply BitVec.eq_of_getLsbD_eq
  intro i hi
  simp [hi]
def pA (a : Nat) : Nat := a - (a / 2 &&& 85)
def pB (a : Nat) : Nat := (a &&& 51) + (a / 4 &&& 51)
def pQ (a : Nat) : Nat := pB (pA a)
def pP (a : Nat) : Nat := (pQ a + pQ a / 16) % 16
theorem and2 {x y m k : Nat} (hx : x < 256) (hm : m < 256) : (x + 256 * y) &&& (m + 256 * k) = (x &&& m) + 256 * (y &&& k) := by
  have e1 := Nat.and_div_two_pow (a := x + 256 * y) (b := m + 256 * k) (n := 8)
  have e2 := Nat.and_mod_two_pow (a := x + 256 * y) (b := m + 256 * k) (n := 8)
  rw [show (x + 256 * y) / 2 ^ 8 = y from by omega, show (m + 256 * k) / 2 ^ 8 = k from by omega] at e1
  rw [show (x + 256 * y) % 2 ^ 8 = x from by omega, show (m + 256 * k) % 2 ^ 8 = m from by omega] at e2
  omega
theorem and3 {x0 x1 x2 m0 m1 m2 : Nat} (h0 : x0 < 256) (h1 : x1 < 256) (g0 : m0 < 256) (g1 : m1 < 256) : (x0 + 256 * x1 + 65536 * x2) &&& (m0 + 256 * m1 + 65536 * m2) = (x0 &&& m0) + 256 * (x1 &&& m1) + 65536 * (x2 &&& m2) := by
  rw [show x0 + 256 * x1 + 65536 * x2 = x0 + 256 * (x1 + 256 * x2) from by omega, show m0 + 256 * m1 + 65536 * m2 = m0 + 256 * (m1 + 256 * m2) from by omega, and2 h0 g0, and2 h1 g1]
  omega
theorem q_a : ∀ x, x < 128 → ∀ e, e < 2 → (x + 128 * e) &&& 85 = x &&& 85 := by decide +kernel
theorem q_b : ∀ x, x < 64 → ∀ e, e < 4 → (x + 64 * e) &&& 51 = x &&& 51 := by decide +kernel
theorem q_1 : ∀ x, x < 256 → x &&& 21845 = x &&& 85 := by decide +kernel
theorem q_2 : ∀ x, x < 256 → x &&& 13107 = x &&& 51 := by decide +kernel
theorem q_3 : ∀ x, x < 256 → x &&& 3855 = x &&& 15 := by decide +kernel
theorem q_q : ∀ a, a < 256 → pQ a % 16 ≤ 4 ∧ pQ a / 16 ≤ 4 ∧ pA a < 256 ∧ pP a ≤ 8 := by decide +kernel
theorem q_p : ∀ a, a < 256 → pP a = fb_ct (fun i => a.testBit i) 8 := by decide +kernel
theorem st_1 {a b c : Nat} (ha : a < 256) (hb : b < 256) (hc : c < 256) : bc1 (nI (a + 256 * b + 65536 * c)) = nI (pA a + 256 * pA b + 65536 * pA c) := by
  unfold bc1
  rw [pk_ushrN (by omega) 1 1 (by decide)]
  show nI _ - (nI _ &&& nI (85 + 256 * 85 + 65536 * 21845)) = _
  have la : a / 2 &&& 85 ≤ a / 2 := Nat.and_le_left
  have lb : b / 2 &&& 85 ≤ b / 2 := Nat.and_le_left
  have lc : c / 2 &&& 85 ≤ c / 2 := Nat.and_le_left
  rw [nx_and, show (a + 256 * b + 65536 * c) / 2 ^ 1 = (a / 2 + 128 * (b % 2)) + 256 * (b / 2 + 128 * (c % 2)) + 65536 * (c / 2) from by omega, and3 (by omega) (by omega) (by decide) (by decide), q_a _ (by omega) _ (by omega), q_a _ (by omega) _ (by omega), q_1 _ (by omega), pk_sub (by omega)]
  unfold pA
  congr 1
  omega
theorem st_2 {a b c : Nat} (ha : a < 256) (hb : b < 256) (hc : c < 256) : bc2 (nI (a + 256 * b + 65536 * c)) = nI (pB a + 256 * pB b + 65536 * pB c) := by
  unfold bc2
  rw [pk_ushrN (by omega) 2 2 (by decide)]
  show (nI _ &&& nI (51 + 256 * 51 + 65536 * 13107)) + (nI _ &&& nI (51 + 256 * 51 + 65536 * 13107)) = _
  rw [nx_and, nx_and, show (a + 256 * b + 65536 * c) / 2 ^ 2 = (a / 4 + 64 * (b % 4)) + 256 * (b / 4 + 64 * (c % 4)) + 65536 * (c / 4) from by omega, and3 ha hb (by decide) (by decide), and3 (by omega) (by omega) (by decide) (by decide), q_b _ (by omega) _ (by omega), q_b _ (by omega) _ (by omega), q_2 _ (by omega), q_2 _ (by omega), nI_add]
  unfold pB
  congr 1
  omega
theorem st_3 {a b c : Nat} (ha : a < 256) (hb : b < 256) (hc : c < 256) : bc3 (nI (pQ a + 256 * pQ b + 65536 * pQ c)) = nI (pP a + 256 * pP b + 65536 * pP c) := by
  have qa := q_q a ha
  have qb := q_q b hb
  have qc := q_q c hc
  unfold bc3
  rw [pk_ushrN (by omega) 4 4 (by decide), nI_add]
  show nI _ &&& nI (15 + 256 * 15 + 65536 * 3855) = _
  rw [nx_and, show pQ a + 256 * pQ b + 65536 * pQ c + (pQ a + 256 * pQ b + 65536 * pQ c) / 2 ^ 4 = (pQ a + pQ a / 16 + 16 * (pQ b % 16)) + 256 * (pQ b + pQ b / 16 + 16 * (pQ c % 16)) + 65536 * (pQ c + pQ c / 16) from by omega, and3 (by omega) (by omega) (by decide) (by decide), q_3 _ (by omega)]
  have m : ∀ x, x &&& 15 = x % 16 := fun x => Nat.and_two_pow_sub_one_eq_mod x 4
  rw [m, m, m]
  unfold pP
  congr 1
  omega
theorem st_n {a b c : Nat} (ha : a < 256) (hb : b < 256) (hc : c < 256) : bcN (nI (a + 256 * b + 65536 * c)) = pP a + pP b + pP c := by
  have qa := q_q a ha
  have qb := q_q b hb
  have qc := q_q c hc
  unfold bcN
  rw [st_1 ha hb hc, st_2 qa.2.2.1 qb.2.2.1 qc.2.2.1]
  rw [show pB (pA a) + 256 * pB (pA b) + 65536 * pB (pA c) = pQ a + 256 * pQ b + 65536 * pQ c from rfl, st_3 ha hb hc]
  unfold bc4
  rw [pk_ushrN (by omega) 8 8 (by decide), nI_add]
  unfold bc5
  rw [pk_ushrN (by omega) 16 16 (by decide), nI_add, pk_tn (by omega)]
  have w1 : (pP a + 256 * pP b + 65536 * pP c) / 2 ^ 8 = pP b + 256 * pP c := by omega
  rw [w1]
  have w2 : (pP a + 256 * pP b + 65536 * pP c + (pP b + 256 * pP c)) / 2 ^ 16 = pP c := by omega
  rw [w2]
  omega
theorem tb_lo {a y i : Nat} (ha : a < 256) (hi : i < 8) : (a + 256 * y).testBit i = a.testBit i := by
  have t := Nat.testBit_mod_two_pow (a + 256 * y) 8 i
  rw [show (a + 256 * y) % 2 ^ 8 = a from by omega, decide_eq_true hi, Bool.true_and] at t
  exact t.symm
theorem tb_hi {a y : Nat} (i : Nat) (ha : a < 256) : (a + 256 * y).testBit (8 + i) = y.testBit i := by
  have t := Nat.testBit_div_two_pow (n := 8) (a + 256 * y) i
  rw [show (a + 256 * y) / 2 ^ 8 = y from by omega] at t
  rw [Nat.add_comm 8 i]
  exact t.symm
theorem bc_ct (x : Int32) (h : ∀ i, 24 ≤ i → bt x i = false) : bcN x = fb_ct (fun i => bt x i) 24 := by
  obtain ⟨X, hX⟩ : ∃ X, X = x.toBitVec.toNat := ⟨_, rfl⟩
  have hb : ∀ i, bt x i = X.testBit i := fun i => by rw [hX]; rfl
  have hl : X < 2 ^ 24 := Nat.lt_pow_two_of_testBit X (fun i hi => (hb i).symm.trans (h i hi))
  have hx : x = nI X := by
    rw [hX]
    exact Int32.toBitVec_inj.mp (by show _ = BitVec.ofNat 32 _; simp)
  obtain ⟨a, ea⟩ : ∃ a, a = X % 256 := ⟨_, rfl⟩
  obtain ⟨b, eb⟩ : ∃ b, b = X / 256 % 256 := ⟨_, rfl⟩
  obtain ⟨c, ec⟩ : ∃ c, c = X / 65536 := ⟨_, rfl⟩
  have ha : a < 256 := by omega
  have hbb : b < 256 := by omega
  have hc : c < 256 := by omega
  have e : X = a + 256 * b + 65536 * c := by omega
  have e2 : X = a + 256 * (b + 256 * c) := by omega
  rw [fb_ct_cong (q := fun i => X.testBit i) (fun i _ => hb i), hx]
  rw [show bcN (nI X) = pP a + pP b + pP c from by rw [e]; exact st_n ha hbb hc]
  have s1 := fb_ct_split (fun i => X.testBit i) 8 16
  have s2 := fb_ct_split (fun k => X.testBit (8 + k)) 8 8
  have t1 : fb_ct (fun i => X.testBit i) 8 = pP a := by
    rw [q_p a ha]
    exact fb_ct_cong (fun i hi => by rw [e2]; exact tb_lo ha hi)
  have t2 : fb_ct (fun k => X.testBit (8 + k)) 8 = pP b := by
    rw [q_p b hbb]
    exact fb_ct_cong (fun i hi => by rw [e2, tb_hi i ha]; exact tb_lo hbb hi)
  have t3 : fb_ct (fun k => X.testBit (8 + (8 + k))) 8 = pP c := by
    rw [q_p c hc]
    exact fb_ct_cong (fun i hi => by rw [e2, tb_hi _ ha, tb_hi i hbb])
  show pP a + pP b + pP c = fb_ct (fun i => X.testBit i) (8 + 16)
  rw [s1, t1, show fb_ct (fun k => X.testBit (8 + k)) 16 = fb_ct (fun k => X.testBit (8 + k)) (8 + 8) from rfl, s2, t2, t3, Nat.add_assoc]
