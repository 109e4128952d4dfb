def eq6 (L M : Nat → Int32) : Prop := ∀ k, k < 6 → L k = M k
theorem eq6_mv {s L M : Nat → Int32} {j a k : Nat} (hp : mOf s (nI j) 2 = nI a) (ha : a < 6) (hk : k < 6) (hne : k ≠ a) (e : eq6 L M) : eq6 (mvL s L j k) (mvL s M j k) := fun i hi => by
  rw [mvL_at hp ha hk hne i, mvL_at hp ha hk hne i, e k hk, e a ha, e i hi]
theorem sh_uld {c : CS} {s : Nat → Int32} (h : rC c s) {j a k : Nat} (hj : j < knj c) (hp : mOf s (nI j) 2 = nI a) (ha : a < 6) (hk : k < 6) (L : Nat → Int32) : sShift (uld c L) (aT 24 (ksz (uld c L)) (nI j)) (aT 24 (kpl (uld c L)) (nI j)) (nI k) = uld c (mvL s L j k) := by
  have h6 : 6 < 2 ^ 31 := by decide
  show uld c (pT 6 (pT 6 L (aT 24 (kpl c) (nI j)) (aT 6 L (aT 24 (kpl c) (nI j)) - aT 24 (ksz c) (nI j))) (nI k) (aT 6 (pT 6 L (aT 24 (kpl c) (nI j)) (aT 6 L (aT 24 (kpl c) (nI j)) - aT 24 (ksz c) (nI j))) (nI k) + aT 24 (ksz c) (nI j))) = uld c (lsMv s (nI j) (mOf s (nI j) 2) (nI k) L)
  rw [rc_pl h hj, rc_sz h hj, hp]
  unfold lsMv
  simp only [pT_nI hk h6, aT_nI hk h6, pT_nI ha h6, aT_nI ha h6, nI_clamp (show a < 2 ^ 31 by omega), nI_clamp (show k < 2 ^ 31 by omega)]
theorem abv_6 {L M : Nat → Int32} (e : eq6 L M) (t : Int32) {n : Nat} (hn : n ≤ 6) : abv L t n = abv M t n := fb_ct_cong (fun k hk => by rw [e k (by omega)])
theorem ch0_v {c : CS} {s L M : Nat → Int32} {t : Int32} {B : Int} (h : R2 c s) (ht : 0 ≤ t) (e : eq6 L M) (hM : lI (knv c) B M) (f : Nat) : ch t 0 (uld c L) f = vO (if pBel t M then some 0 else none) := by
  have hv := h.1.1.2.1
  have b := bel_abv hv hM ht
  have a : sAbove (uld c L) t = nI (abv M t (knv c)) := by
    show abF (uld c L) t (knv c) = _
    rw [ab_v t (knv c) hv, abv_6 e t hv]
  have a6 : abv M t (knv c) ≤ 6 := Nat.le_trans (fb_ct_le _ _) hv
  show (if sAbove (uld c L) t ≤ 0 then (0 : Int32) else -9) = _
  rw [a]
  by_cases g : pBel t M
  · have w : nI (abv M t (knv c)) ≤ 0 := by rw [b.mp g]; decide
    rw [if_pos g, if_pos w]
    rfl
  · have w : ¬ nI (abv M t (knv c)) ≤ 0 := nI_nle (Nat.pos_of_ne_zero (fun q => g (b.mpr q))) (by omega)
    rw [if_neg g, if_neg w]
    rfl
theorem chK_v {c : CS} {s L : Nat → Int32} (h : R2 c s) {rec : CS → Nat → Int32} {R : Nat → Option Nat} {j a : Nat} (hj : j < knj c) (hp : mOf s (nI j) 2 = nI a) (ha : a < knv c) (hR : ∀ k, k < knv c → k ≠ a → rec (uld c (mvL s L j k)) (j + 1) = vO (R k) ∧ oB 500 (R k)) {b : Option Nat} (hb : oB 1000 b) : ∀ k, k ≤ knv c → chK rec (uld c L) j (vO b) k = vO (gK (cdK s (knv c) j) (fun k => oA (pN s j) (R k)) b k) ∧ oB 1000 (gK (cdK s (knv c) j) (fun k => oA (pN s j) (R k)) b k)
  | 0, _ => ⟨rfl, hb⟩
  | k + 1, hk => by
    obtain ⟨ih, ib⟩ := chK_v h hj hp ha hR hb k (by omega)
    have hn := h.1.1.2.2.2
    have k6 := rc_v h.1 (show k < knv c by omega)
    have a6 := rc_v h.1 ha
    have e := pN_e h.2.1 hn hj
    have gc : (¬ nI k = aT 24 (kpl (uld c L)) (nI j) ∧ pOpen (uld c L) (nI k)) ↔ (¬ nI k = mOf s (nI j) 2 ∧ pMOpen s (knv c) (nI k)) := by
      show (¬ nI k = aT 24 (kpl c) (nI j) ∧ pOpen c (nI k)) ↔ _
      rw [rc_pl h.1 hj, rc_op h.1 k6]
    unfold chK gK
    by_cases g : ¬ nI k = mOf s (nI j) 2 ∧ pMOpen s (knv c) (nI k)
    · have g2 : cdK s (knv c) j k = true := decide_eq_true g
      have hka : k ≠ a := fun q => g.1 (by rw [hp, q])
      obtain ⟨r1, r2⟩ := hR k (by omega) hka
      have ep : aT 24 (kpr (uld c L)) (nI j) = nI (pN s j) := (rc_pr h.1 hj).trans e.1
      rw [if_pos (gc.mpr g), if_pos g2, ih, sh_uld h.1 hj hp a6 k6 L, r1, ep]
      exact ⟨vO_c ib r2 (by omega), oB_M ib (oB_le (oB_A r2) (by omega))⟩
    · have g2 : ¬ cdK s (knv c) j k = true := fun q => g (of_decide_eq_true q)
      rw [if_neg (fun q => g (gc.mp q)), if_neg g2]
      exact ⟨ih, ib⟩
theorem chJ_v {c : CS} {s L : Nat → Int32} (h : R2 c s) {rec : CS → Nat → Int32} {Q : Nat → Option Nat} {f : Nat} (hQ : ∀ j, j < knj c → skJ s j = false → ∀ b, oB 1000 b → chK rec (uld c L) j (vO b) (knv c) = vO (oM b (Q j)) ∧ oB 1000 (oM b (Q j))) : ∀ n, n ≤ knj c → chJ rec (uld c L) f n = vO (hJ (skJ s) f Q none n) ∧ oB 1000 (hJ (skJ s) f Q none n)
  | 0, _ => ⟨rfl, oB_n _⟩
  | n + 1, hn => by
    obtain ⟨ih, ib⟩ := chJ_v h hQ n (by omega)
    have ep : aT 24 (kpl (uld c L)) (nI n) = mOf s (nI n) 2 := rc_pl h.1 (show n < knj c by omega)
    unfold chJ hJ
    by_cases g : n < f
    · rw [if_pos g, if_pos g]
      exact ⟨rfl, oB_n _⟩
    · rw [if_neg g, if_neg g, ep]
      by_cases w : mOf s (nI n) 2 = -9
      · have w2 : skJ s n = true := decide_eq_true w
        rw [if_pos w, if_pos w2]
        exact ⟨ih, ib⟩
      · have w3 : skJ s n = false := decide_eq_false w
        have w2 : ¬ skJ s n = true := by rw [w3]; decide
        rw [if_neg w, if_neg w2, ih]
        exact hQ n (by omega) w3 _ ib
theorem T1_none {s M : Nat → Int32} {nv nj : Nat} {B : Int} {t : Int32} (hS : rS s nv nj) (hV : mV s nv nj) (ht : 0 ≤ t) (hB : B ≤ 1000000) (hM : lI nv B M) (h2 : 2 ≤ abv M t nv) (f : Nat) : T1 s nv nj t M f = none := by
  have hv := hV.1.2.1
  have hn := hV.1.2.2.2
  refine hJ_0 nj (fun j hj _ w => gK_0 nv (fun k hk g => ?_))
  obtain ⟨a, ha, a6, ep, oa⟩ := place_nI hV hj (of_decide_eq_false w)
  have hka : k ≠ a := fun q => (of_decide_eq_true g).1 (by rw [ep, q])
  have hm := abv_mv hS hn hB hj ep ha hk hv hka hM t
  exact if_neg (fun q => by
    have := (bel_abv hv (lI_mv hS hn hB hj ep ha hk hv hka hM) ht).mp q
    omega)
theorem ch1_v {c : CS} {s L M : Nat → Int32} {t : Int32} {B : Int} (h : R2 c s) (ht : 0 ≤ t) (hB : B ≤ 900000) (e : eq6 L M) (hM : lI (knv c) B M) (f : Nat) : ch t 1 (uld c L) f = vO (T1 s (knv c) (knj c) t M f) := by
  have hv := h.1.1.2.1
  have hn := h.1.1.2.2.2
  have a : sAbove (uld c L) t = nI (abv M t (knv c)) := by
    show abF (uld c L) t (knv c) = _
    rw [ab_v t (knv c) hv, abv_6 e t hv]
  have a6 : abv M t (knv c) ≤ 6 := Nat.le_trans (fb_ct_le _ _) hv
  show (if sAbove (uld c L) t ≤ nI 1 then chJ (ch t 0) (uld c L) f (knj c) else -9) = _
  rw [a]
  by_cases g : abv M t (knv c) ≤ 1
  · rw [if_pos (nI_le g (by decide))]
    have J := chJ_v (L := L) (rec := ch t 0) (Q := q1 s (knv c) t 0 M) (f := f) h (fun j hj w b hb => by
      obtain ⟨a, ha, a6, ep, oa⟩ := place_nI h.2.2.1 hj (of_decide_eq_false w)
      have K := chK_v (L := L) (rec := ch t 0) (R := fun k => if pBel t (mvL s M j k) then some 0 else none) h hj ep ha (fun k hk hka => by
        have k6 := rc_v h.1 hk
        refine ⟨ch0_v h ht (eq6_mv ep a6 k6 hka e) (lI_mv h.2.1 hn (by omega) hj ep ha hk hv hka hM) (j + 1), fun n q => ?_⟩
        by_cases w : pBel t (mvL s M j k)
        · have q2 : (if pBel t (mvL s M j k) then some 0 else none) = some n := q
          rw [if_pos w] at q2
          injection q2 with q3
          omega
        · have q2 : (if pBel t (mvL s M j k) then some 0 else none) = some n := q
          rw [if_neg w] at q2
          cases q2) hb (knv c) (Nat.le_refl _)
      rw [gK_l] at K
      have eq : gK (cdK s (knv c) j) (fun k => oA (pN s j) (if pBel t (mvL s M j k) then some 0 else none)) none (knv c) = q1 s (knv c) t 0 M j := gK_c (knv c) (fun k _ _ => by
        by_cases w : pBel t (mvL s M j k)
        · rw [if_pos w, if_pos w]
          show some _ = some _
          rw [Nat.add_comm]
        · rw [if_neg w, if_neg w]
          rfl)
      rw [eq] at K
      exact K) (knj c) (Nat.le_refl _)
    exact J.1
  · rw [if_neg (nI_ge (by omega) (by omega)), T1_none h.2.1 h.2.2.1 ht (by omega) hM (by omega) f]
    rfl
theorem ch2_v {c : CS} {s L M : Nat → Int32} {t : Int32} {B : Int} (h : R2 c s) (ht : 0 ≤ t) (hB : B ≤ 800000) (e : eq6 L M) (hM : lI (knv c) B M) : ch t 2 (uld c L) 0 = vO (T2 s (knv c) (knj c) t M) := by
  have hv := h.1.1.2.1
  have hn := h.1.1.2.2.2
  have a : sAbove (uld c L) t = nI (abv M t (knv c)) := by
    show abF (uld c L) t (knv c) = _
    rw [ab_v t (knv c) hv, abv_6 e t hv]
  have a6 : abv M t (knv c) ≤ 6 := Nat.le_trans (fb_ct_le _ _) hv
  show (if sAbove (uld c L) t ≤ nI 2 then chJ (ch t 1) (uld c L) 0 (knj c) else -9) = _
  rw [a]
  by_cases g : abv M t (knv c) ≤ 2
  · rw [if_pos (nI_le g (by decide))]
    have J := chJ_v (L := L) (rec := ch t 1) (Q := q2 s (knv c) (knj c) t M) (f := 0) h (fun j hj w b hb => by
      obtain ⟨a, ha, a6, ep, oa⟩ := place_nI h.2.2.1 hj (of_decide_eq_false w)
      have K := chK_v (L := L) (rec := ch t 1) (R := fun k => T1 s (knv c) (knj c) t (mvL s M j k) (j + 1)) h hj ep ha (fun k hk hka => by
        have k6 := rc_v h.1 hk
        exact ⟨ch1_v h ht (by omega) (eq6_mv ep a6 k6 hka e) (lI_mv h.2.1 hn (by omega) hj ep ha hk hv hka hM) (j + 1), oB_le (T1_B h.2.1 hn t _ _) (by omega)⟩) hb (knv c) (Nat.le_refl _)
      rw [gK_l] at K
      exact K) (knj c) (Nat.le_refl _)
    exact J.1
  · have z : T2 s (knv c) (knj c) t M = none := by
      refine hJ_0 (knj c) (fun j hj _ w => gK_0 (knv c) (fun k hk g2 => ?_))
      obtain ⟨a, ha, a6, ep, oa⟩ := place_nI h.2.2.1 hj (of_decide_eq_false w)
      have hka : k ≠ a := fun q => (of_decide_eq_true g2).1 (by rw [ep, q])
      have hm := abv_mv h.2.1 hn (by omega) hj ep ha hk hv hka hM t
      rw [T1_none h.2.1 h.2.2.1 ht (by omega) (lI_mv h.2.1 hn (by omega) hj ep ha hk hv hka hM) (by omega) (j + 1)]
      rfl
    rw [if_neg (nI_ge (by omega) (by omega)), z]
    rfl
/-! the target is no negative number -/
theorem bd_nI {s : Nat → Int32} {nv nj : Nat} (h : rS s nv nj) (hn : nj ≤ 24) : ∀ n, n ≤ nj → ∃ b : Nat, b ≤ 1000 ∧ bdF s n = nI b
  | 0, _ => ⟨0, by omega, rfl⟩
  | n + 1, hq => by
    obtain ⟨b, hb, e⟩ := bd_nI h hn n (by omega)
    have gz := sz_nI h (show n < nj by omega)
    unfold bdF
    by_cases g : mOf s (nI n) 2 = -9
    · rw [if_pos (show pMDone s (nI n) from g)]
      exact ⟨b, hb, e⟩
    · rw [if_neg (show ¬ pMDone s (nI n) from g), e, mOf_0 s (by omega), gz.1, gT_nI (by omega) (by omega)]
      exact ⟨max b (szN s n), by omega, rfl⟩
theorem bound_nI {s : Nat → Int32} {nv nj : Nat} (h : rS s nv nj) (hn : nj ≤ 24) : ∃ b : Nat, b ≤ 30000 ∧ mBound s nj = nI b := by
  obtain ⟨b, hb, e⟩ := bd_nI h hn nj (Nat.le_refl _)
  have a := al_nI h hn nj (Nat.le_refl _)
  have al := al_le h nj (Nat.le_refl _)
  have o := opens_ct s
  unfold mBound
  by_cases g : mOpens s = 0
  · rw [if_pos g]
    exact ⟨0, by omega, rfl⟩
  · have o0 : 0 < opC s := Nat.pos_of_ne_zero (fun q => g (by rw [o.1, q]; rfl))
    have l : (alN s nj + opC s - 1) / opC s ≤ alN s nj + opC s - 1 := Nat.div_le_self _ _
    rw [if_neg g, e, show mAll s nj = nI (alN s nj) from a, o.1, nI_add, show (1 : Int32) = nI 1 from rfl, pk_sub (by omega), pk_div (by omega) o0 (by omega), gT_nI (by omega) (by omega)]
    exact ⟨max b ((alN s nj + opC s - 1) / opC s), by omega, rfl⟩
theorem target_nI {s : Nat → Int32} {nv nj : Nat} (h : rS s nv nj) (hn : nj ≤ 24) : 0 ≤ mTarget s nj := by
  obtain ⟨b, hb, e⟩ := bound_nI h hn
  obtain ⟨f, f1, f2, ef⟩ := h.2.2
  have m : b * f ≤ 30000 * 400 := Nat.mul_le_mul hb f2
  have l : b * f / 100 ≤ b * f := Nat.div_le_self _ _
  unfold mTarget
  rw [e, ef, pk_mul, show (100 : Int32) = nI 100 from rfl, pk_div (by omega) (by decide) (by decide)]
  exact nI_pos' (by omega)
theorem gL_eq {c : CS} {s : Nat → Int32} (h : R2 c s) : eq6 (kld c) (gL s (knv c) (knj c)) ∧ lI (knv c) 24000 (gL s (knv c) (knj c)) := by
  have hv := h.1.1.2.1
  have hn := h.1.1.2.2.2
  have z : ∀ k, k < 6 → knv c ≤ k → mLoad s (knj c) (nI k) = 0 := fun k hk q => lo_closed h.2.2.1 (st_ne9 (by omega)) (fun o => o.1.2 (nI_le q (by omega))) (knj c) (Nat.le_refl _)
  have v : ∀ k, k < 6 → gL s (knv c) (knj c) k = mLoad s (knj c) (nI k) := fun k hk => by
    unfold gL
    by_cases q : knv c ≤ k
    · rw [if_pos (nI_le q (by omega)), z k hk q]
    · rw [if_neg (nI_ge (by omega) (by omega))]
  refine ⟨fun k hk => ?_, fun k hk => ?_⟩
  · rw [v k hk]
    exact h.1.2.2.2.1 k hk
  · have l := ld_nI h.2.1 hn (nI k)
    rw [v k hk]
    refine ⟨fun q => z k hk q, ?_, ?_⟩
    · rw [l.1, nI_toInt (by omega)]
      omega
    · rw [l.1, nI_toInt (by omega)]
      omega
theorem few_eq {c : CS} {s : Nat → Int32} (h : R2 c s) (p : Int32) : sFewest c p = rMFew s (knv c) (knj c) p := by
  have hv := h.1.1.2.1
  have hn := h.1.1.2.2.2
  have et := rc_target h.1 h.2.2.1
  have ht := target_nI h.2.1 hn
  obtain ⟨e6, l0⟩ := gL_eq h
  have c0 : ch (mTarget s (knj c)) 0 c 0 = vO (if pBel (mTarget s (knj c)) (gL s (knv c) (knj c)) then some 0 else none) := ch0_v h ht e6 l0 0
  have c1 : ch (mTarget s (knj c)) 1 c 0 = vO (T1 s (knv c) (knj c) (mTarget s (knj c)) (gL s (knv c) (knj c)) 0) := ch1_v h ht (by decide) e6 l0 0
  have c2 : ch (mTarget s (knj c)) 2 c 0 = vO (T2 s (knv c) (knj c) (mTarget s (knj c)) (gL s (knv c) (knj c))) := ch2_v h ht (by decide) e6 l0
  have w1 : fw1 s (knv c) (knj c) = vO (T1 s (knv c) (knj c) (mTarget s (knj c)) (gL s (knv c) (knj c)) 0) := by
    have q := tmJ_T h.2.1 hn (mTarget s (knj c)) (pr := 0) (by decide) (gL s (knv c) (knj c)) 0 (b := none) (oB_n _)
    refine Eq.trans q (congrArg vO ?_)
    cases T1 s (knv c) (knj c) (mTarget s (knj c)) (gL s (knv c) (knj c)) 0 with
    | none => rfl
    | some x =>
      show some (0 + x) = some x
      rw [Nat.zero_add]
  have w2 : fw1 s (knv c) (knj c) = -9 → fw2 s (knv c) (knj c) (knj c) = vO (T2 s (knv c) (knj c) (mTarget s (knj c)) (gL s (knv c) (knj c))) := fun q => by
    have r := (dbJ_v h.2.1 hn (mTarget s (knj c)) (gL s (knv c) (knj c)) (b := none) (oB_n _) (knj c) (Nat.le_refl _)).1
    unfold fw2
    rw [q]
    exact r
  have ev : pBel (mTarget s (knj c)) (gL s (knv c) (knj c)) ↔ pMEven s (knv c) (knj c) := by
    show ¬ blF _ _ 6 = 0 ↔ ¬ mTarget s (knj c) < mGreat s (knv c) (knj c)
    rw [bl_all, Int32.not_lt]
    have v : ∀ k, k < knv c → gL s (knv c) (knj c) k = mLoad s (knj c) (nI k) := fun k hk => if_neg (nI_ge hk (by omega))
    constructor
    · intro a
      exact gr_le ht (knv c) (fun k hk => by rw [← v k hk]; exact a k (by omega))
    · intro a k hk
      by_cases q : k < knv c
      · rw [v k q]
        exact Int32.le_trans (gr_ge s (knj c) (knv c) q) a
      · rw [(l0 k hk).1 (by omega)]
        exact ht
  unfold sFewest rMFew
  rw [et, c0, c1, c2]
  by_cases i : pIn p 0 1
  · rw [if_pos (show ¬ p < 0 ∧ p ≤ 1 from ⟨i.1, Int32.not_lt.mp i.2⟩), if_pos i]
    by_cases g : pMEven s (knv c) (knj c)
    · have n0 : ¬ vO (some 0) = -9 := by decide
      rw [if_pos g, if_pos (ev.mpr g), if_pos n0]
      by_cases p0 : p = 0
      · rw [if_pos p0]
      · rw [if_neg p0]
        rfl
    · have n0 : ¬ ¬ vO none = -9 := fun q => q rfl
      rw [if_neg g, if_neg (fun q => g (ev.mp q)), if_neg n0, ← w1]
      by_cases g1 : fw1 s (knv c) (knj c) = -9
      · rw [if_pos g1, if_neg (fun q => q g1), w2 g1]
        by_cases g2 : vO (T2 s (knv c) (knj c) (mTarget s (knj c)) (gL s (knv c) (knj c))) = -9
        · rw [if_pos g2, if_neg (fun q => q g2)]
        · rw [if_neg g2, if_pos g2]
      · rw [if_neg g1, if_pos g1]
  · rw [if_neg (show ¬ (¬ p < 0 ∧ p ≤ 1) from fun q => i ⟨q.1, Int32.not_lt.mpr q.2⟩), if_neg i]
