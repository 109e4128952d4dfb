theorem lo_cong {s t : Nat → Int32} (k : Int32) : ∀ n, (∀ i, i < n → mOf t (nI i) 2 = mOf s (nI i) 2 ∧ mOf t (nI i) 0 = mOf s (nI i) 0) → loF t k n = loF s k n
  | 0, _ => rfl
  | n + 1, h => by
    unfold loF
    rw [lo_cong k n (fun i hi => h i (by omega)), (h n (by omega)).1, (h n (by omega)).2]
theorem al_cong {s t : Nat → Int32} : ∀ n, (∀ i, i < n → mOf t (nI i) 2 = mOf s (nI i) 2 ∧ mOf t (nI i) 0 = mOf s (nI i) 0) → alF t n = alF s n
  | 0, _ => rfl
  | n + 1, h => by
    unfold alF
    rw [al_cong n (fun i hi => h i (by omega)), (h n (by omega)).2]
    refine ite_iff ?_ _ _
    show mOf t (nI n) 2 = -9 ↔ mOf s (nI n) 2 = -9
    rw [(h n (by omega)).1]
/-! a job ends -/
theorem loN_fin (s : Nat → Int32) {j a : Nat} (hj : j < 24) (hp : mOf s (nI j) 2 = nI a) (ha : a < 6) {x : Nat} (hx : x < 6) : ∀ n, n ≤ 24 → loN (upd s (6 + 4 * j + 2) (-9)) (nI x) n + (if j < n ∧ x = a then szN s j else 0) = loN s (nI x) n
  | 0, _ => by
    rw [if_neg (fun q => Nat.not_lt_zero j q.1)]
    rfl
  | n + 1, hn => by
    have ih := loN_fin s hj hp ha hx n (by omega)
    have q2 : (nI a = nI x) ↔ a = x := nI_eq (by omega) (by omega)
    have ez : szN (upd s (6 + 4 * j + 2) (-9)) n = szN s n := by
      unfold szN upd
      rw [if_neg (by omega)]
    unfold loN
    rw [fin_2 s hj (by omega), ez]
    by_cases e : n = j
    · subst e
      rw [if_pos rfl, hp, if_neg (fun q => st_ne9 (n := x) (by omega) q.symm)]
      simp only [q2, Nat.lt_irrefl, false_and, if_false, Nat.lt_succ_self, true_and, Nat.add_zero] at ih ⊢
      by_cases c1 : x = a
      · subst c1
        simp only [if_true]
        omega
      · simp only [if_neg c1, if_neg (Ne.symm c1)]
        omega
    · rw [if_neg e]
      have e1 : (j < n + 1) ↔ j < n := by omega
      simp only [e1]
      by_cases g : mOf s (nI n) 2 = nI x
      · rw [if_pos g, if_pos g]
        omega
      · rw [if_neg g, if_neg g]
        exact ih
def alN (s : Nat → Int32) : Nat → Nat
  | 0 => 0
  | j + 1 => if mOf s (nI j) 2 = -9 then alN s j else alN s j + szN s j
theorem al_nI {s : Nat → Int32} {nv nj : Nat} (h : rS s nv nj) (hn : nj ≤ 24) : ∀ n, n ≤ nj → alF s n = nI (alN s n)
  | 0, _ => rfl
  | n + 1, hq => by
    have ih := al_nI h hn n (by omega)
    unfold alF alN
    rw [ih]
    by_cases g : mOf s (nI n) 2 = -9
    · rw [if_pos (show pMDone s (nI n) from g), if_pos g, Int32.add_zero]
    · rw [if_neg (show ¬ pMDone s (nI n) from g), if_neg g, mOf_0 s (by omega), (sz_nI h (by omega)).1, nI_add]
theorem al_le {s : Nat → Int32} {nv nj : Nat} (h : rS s nv nj) : ∀ n, n ≤ nj → alN s n ≤ 1000 * n
  | 0, _ => Nat.le_refl _
  | n + 1, hq => by
    have ih := al_le h n (by omega)
    have g := sz_nI h (show n < nj by omega)
    unfold alN
    split <;> omega
theorem alN_fin (s : Nat → Int32) {j : Nat} (hj : j < 24) (hp : ¬ mOf s (nI j) 2 = -9) : ∀ n, n ≤ 24 → alN (upd s (6 + 4 * j + 2) (-9)) n + (if j < n then szN s j else 0) = alN s n
  | 0, _ => by
    rw [if_neg (Nat.not_lt_zero j)]
    rfl
  | n + 1, hn => by
    have ih := alN_fin s hj hp n (by omega)
    have ez : szN (upd s (6 + 4 * j + 2) (-9)) n = szN s n := by
      unfold szN upd
      rw [if_neg (by omega)]
    unfold alN
    rw [fin_2 s hj (by omega), ez]
    by_cases e : n = j
    · subst e
      rw [if_pos rfl, if_pos rfl, if_neg hp, if_pos (Nat.lt_succ_self n)]
      rw [if_neg (Nat.lt_irrefl n)] at ih
      omega
    · rw [if_neg e]
      have e1 : (j < n + 1) ↔ j < n := by omega
      simp only [e1]
      by_cases g : mOf s (nI n) 2 = -9
      · rw [if_pos g, if_pos g]
        exact ih
      · rw [if_neg g, if_neg g]
        omega
theorem rS_fin {s : Nat → Int32} {nv nj : Nat} (hS : rS s nv nj) (j : Nat) : rS (upd s (6 + 4 * j + 2) (-9)) nv nj := by
  refine ⟨fun i hi => ?_, fun i hi => ?_, ?_⟩
  · unfold upd
    rw [if_neg (by omega), if_neg (by omega)]
    exact hS.1 i hi
  · unfold upd
    by_cases e : i = j
    · rw [if_pos (by omega)]
      exact Or.inl rfl
    · rw [if_neg (by omega)]
      exact hS.2.1 i hi
  · unfold upd
    rw [if_neg (by omega)]
    exact hS.2.2
theorem R2_end {c : CS} {s : Nat → Int32} (h : R2 c s) {j : Nat} (hj : j < knj c) (n1 : ¬ mOf s (nI j) 2 = -9) : R2 (sEnd c (nI j)) (upd s (6 + 4 * j + 2) (-9)) := by
  have hj24 := rc_j h.1 hj
  have hn := h.1.1.2.2.2
  obtain ⟨a, ha, ha6, ep, oa⟩ := place_nI h.2.2.1 hj n1
  have hS2 := rS_fin h.2.1 j
  have e1 : upd s (6 + 4 * j + 2) (-9) 1 = s 1 := by unfold upd; rw [if_neg (by omega)]
  have gz := sz_nI h.2.1 hj
  have ez : aT 24 (ksz c) (nI j) = nI (szN s j) := by rw [rc_sz h.1 hj, mOf_0 s hj24]; exact gz.1
  refine ⟨⟨MI_upd _ _ (by omega) (by omega) h.1.1, fun i hi => ?_, fun i hi => ?_, fun i hi => ?_, ?_, ?_, ?_, ?_, ?_⟩, hS2, mV_fin hj24 h.2.2.1, ?_⟩
  · have hi : i < knj c := hi
    obtain ⟨g1, g2, g3, g4⟩ := h.1.2.1 i hi
    refine ⟨?_, ?_, ?_, ?_⟩
    · show ksz c i = _
      unfold upd
      rw [if_neg (by omega)]
      exact g1
    · show kpr c i = _
      unfold upd
      rw [if_neg (by omega)]
      exact g2
    · show pT 24 (kpl c) (nI j) (-9) i = _
      rw [pT_nI hj24 (by decide)]
      unfold upd
      by_cases e : i = j
      · rw [if_pos e, if_pos (by omega)]
      · rw [if_neg e, if_neg (by omega)]
        exact g3
    · show kmv c i = _
      unfold upd
      rw [if_neg (by omega)]
      exact g4
  · rw [e1]
    exact h.1.2.2.1 i hi
  · show pT 6 (kld c) (aT 24 (kpl c) (nI j)) (aT 6 (kld c) (aT 24 (kpl c) (nI j)) - aT 24 (ksz c) (nI j)) i = mLoad _ (knj c) (nI i)
    have hl := loN_fin s hj24 ep ha6 hi (knj c) hn
    rw [rc_pl h.1 hj, ep, ez, pT_nI ha6 (by decide), aT_nI ha6 (by decide), (ld_nI hS2 hn (nI i)).1, h.1.2.2.2.1 a ha6, (ld_nI h.2.1 hn (nI a)).1]
    by_cases c2 : i = a
    · subst c2
      rw [if_pos ⟨hj, rfl⟩] at hl
      rw [show upd (kld c) i (nI (loN s (nI i) (knj c)) - nI (szN s j)) i = nI (loN s (nI i) (knj c)) - nI (szN s j) from pk_us, pk_sub (by omega)]
      rw [show loN s (nI i) (knj c) - szN s j = loN (upd s (6 + 4 * j + 2) (-9)) (nI i) (knj c) from by omega]
    · rw [if_neg (fun q => c2 q.2)] at hl
      rw [pk_un c2, h.1.2.2.2.1 i hi, (ld_nI h.2.1 hn (nI i)).1]
      rw [show loN s (nI i) (knj c) = loN (upd s (6 + 4 * j + 2) (-9)) (nI i) (knj c) from by omega]
  · show knO c = opF _ 6
    rw [op_s1 e1 6]
    exact h.1.2.2.2.2.1
  · show ksm c - aT 24 (ksz c) (nI j) = alF _ (knj c)
    have hl := alN_fin s hj24 n1 (knj c) hn
    rw [if_pos hj] at hl
    rw [h.1.2.2.2.2.2.1, ez, show mAll s (knj c) = nI (alN s (knj c)) from al_nI h.2.1 hn (knj c) (Nat.le_refl _), al_nI hS2 hn (knj c) (Nat.le_refl _), pk_sub (by omega)]
    rw [show alN s (knj c) - szN s j = alN (upd s (6 + 4 * j + 2) (-9)) (knj c) from by omega]
  · show kbu c = _
    unfold upd
    rw [if_neg (by omega)]
    exact h.1.2.2.2.2.2.2.1
  · show kfa c = _
    unfold upd
    rw [if_neg (by omega)]
    exact h.1.2.2.2.2.2.2.2.1
  · show kmo c = _
    unfold upd
    rw [if_neg (by omega)]
    exact h.1.2.2.2.2.2.2.2.2
  · rcases h.2.2.2 with q | q
    · exact Or.inl q
    · exact Or.inr (by rw [opC_s1 e1]; exact q)
theorem end_eq {c : CS} {s : Nat → Int32} (h : R2 c s) (p : Int32) : (fEnd c p).1 = (gFin s (knj c) p).1 ∧ R2 (fEnd c p).2 (gFin s (knj c) p).2 := by
  unfold fEnd gFin
  by_cases g : pHas (knj c) p
  · rw [if_pos (show pHasJ c p from g), if_pos g]
    obtain ⟨j, hj, rfl⟩ := has_ex g h.1.1.2.2.2
    have hj24 := rc_j h.1 hj
    have e2 := rc_pl h.1 hj
    by_cases n1 : mOf s (nI j) 2 = -9
    · rw [if_pos (show pFin c (nI j) from e2.trans n1), if_pos n1]
      exact ⟨rfl, h⟩
    · rw [if_neg (fun q : pFin c (nI j) => n1 (e2.symm.trans q)), if_neg n1, nI_clamp (by omega), e2]
      have T := R2_end h hj n1
      obtain ⟨a, ha, ha6, ep, oa⟩ := place_nI h.2.2.1 hj n1
      rw [ep]
      exact ⟨rc_ld T.1 ha6, T⟩
  · rw [if_neg (show ¬ pHasJ c p from g), if_neg g]
    exact ⟨rfl, h⟩
/-! a job comes -/
theorem adds_lo (s : Nat → Int32) {nj i : Nat} (hi : i < nj) (a b k : Int32) (w : Nat) (hw : w < 4) : mAdds s nj a b k (6 + 4 * i + w) = s (6 + 4 * i + w) := by
  rw [adds_at, if_neg (by omega), if_neg (by omega), if_neg (by omega), if_neg (by omega), if_neg (by omega)]
theorem adds_s (s : Nat → Int32) (nj : Nat) (a b k : Int32) {i : Nat} (h : i < 6) (h2 : i ≠ 2) : mAdds s nj a b k i = s i := by
  rw [adds_at, if_neg h2, if_neg (by omega), if_neg (by omega), if_neg (by omega), if_neg (by omega)]
theorem rng_of {v : Int32} {lo hi : Nat} (hh : hi < 2 ^ 30) (h : pIn v (nI lo) (nI hi)) (hl : lo ≤ hi) : ∃ a : Nat, lo ≤ a ∧ a ≤ hi ∧ v = nI a := by
  have h0 : ¬ v < 0 := fun q => h.1 (Int32.lt_of_lt_of_le q (nI_pos' (by omega)))
  obtain ⟨a, ha, e⟩ := nI_of h0
  refine ⟨a, ?_, ?_, e⟩
  · have := h.1
    rw [e, nI_ltI ha (by omega)] at this
    omega
  · have := h.2
    rw [e, nI_ltI (by omega) ha] at this
    omega
theorem R2_add {c : CS} {s : Nat → Int32} (h : R2 c s) {a b k : Nat} (ha1 : 1 ≤ a) (ha2 : a ≤ 1000) (hb : b ≤ 100) (hk6 : k < 6) (hk : pMOpen s (knv c) (nI k)) (hn : knj c < 24) : R2 (sNewJob c (nI a) (nI b) (nI k)) (mAdds s (knj c) (nI a) (nI b) (nI k)) := by
  have V := mV_adds (a := nI a) (b := nI b) hn hk h.2.2.1
  have kv : k < knv c := by
    rcases Nat.lt_or_ge k (knv c) with q | q
    · exact q
    · exact absurd (nI_le q (by omega)) hk.1.2
  have c0 : ∀ i, i < knj c → mOf (mAdds s (knj c) (nI a) (nI b) (nI k)) (nI i) 2 = mOf s (nI i) 2 ∧ mOf (mAdds s (knj c) (nI a) (nI b) (nI k)) (nI i) 0 = mOf s (nI i) 0 := fun i hi => by
    rw [mOf_2 _ (by omega), mOf_2 _ (by omega), mOf_0 _ (by omega), mOf_0 _ (by omega)]
    exact ⟨adds_lo s hi _ _ _ 2 (by decide), adds_lo s hi _ _ _ 0 (by decide)⟩
  have p2 : mOf (mAdds s (knj c) (nI a) (nI b) (nI k)) (nI (knj c)) 2 = nI k := by rw [adds_2 s hn, if_pos rfl]
  have p0 : mOf (mAdds s (knj c) (nI a) (nI b) (nI k)) (nI (knj c)) 0 = nI a := by
    rw [mOf_0 _ hn, adds_at, if_neg (by omega), if_neg (by omega), if_neg (by omega), if_neg (by omega), if_pos rfl]
  have e1 := adds_s s (knj c) (nI a) (nI b) (nI k) (i := 1) (by decide) (by decide)
  refine ⟨⟨V.1, fun i hi => ?_, fun i hi => ?_, fun i hi => ?_, ?_, ?_, ?_, ?_, ?_⟩, ⟨fun i hi => ?_, fun i hi => ?_, ?_⟩, V, ?_⟩
  · have hi : i < knj c + 1 := hi
    have g : ∀ f : Nat → Int32, ∀ v, pT 24 f (nI (knj c)) v i = if i = knj c then v else f i := fun f v => by
      rw [pT_nI hn (by decide)]
      rfl
    refine ⟨?_, ?_, ?_, ?_⟩
    · refine (g (ksz c) (nI a)).trans ?_
      by_cases e : i = knj c
      · rw [if_pos e, adds_at, if_neg (by omega), if_neg (by omega), if_neg (by omega), if_neg (by omega), if_pos (by omega)]
      · rw [if_neg e, (h.1.2.1 i (by omega)).1]
        exact (adds_lo s (by omega) _ _ _ 0 (by decide)).symm
    · refine (g (kpr c) (nI b)).trans ?_
      by_cases e : i = knj c
      · rw [if_pos e, adds_at, if_neg (by omega), if_neg (by omega), if_neg (by omega), if_pos (by omega)]
      · rw [if_neg e, (h.1.2.1 i (by omega)).2.1]
        exact (adds_lo s (by omega) _ _ _ 1 (by decide)).symm
    · refine (g (kpl c) (nI k)).trans ?_
      by_cases e : i = knj c
      · rw [if_pos e, adds_at, if_neg (by omega), if_neg (by omega), if_pos (by omega)]
      · rw [if_neg e, (h.1.2.1 i (by omega)).2.2.1]
        exact (adds_lo s (by omega) _ _ _ 2 (by decide)).symm
    · refine (g (kmv c) 0).trans ?_
      by_cases e : i = knj c
      · rw [if_pos e, adds_at, if_neg (by omega), if_pos (by omega)]
      · rw [if_neg e, (h.1.2.1 i (by omega)).2.2.2]
        exact (adds_lo s (by omega) _ _ _ 3 (by decide)).symm
  · rw [e1]
    exact h.1.2.2.1 i hi
  · show pT 6 (kld c) (nI k) (aT 6 (kld c) (nI k) + nI a) i = loF _ (nI i) (knj c + 1)
    have q2 : (nI k = nI i) ↔ k = i := nI_eq (by omega) (by omega)
    unfold loF
    rw [lo_cong (nI i) (knj c) c0, p2, p0, pT_nI hk6 (by decide), aT_nI hk6 (by decide)]
    simp only [q2]
    by_cases e : k = i
    · subst e
      rw [if_pos rfl, show upd (kld c) k (kld c k + nI a) k = kld c k + nI a from pk_us, h.1.2.2.2.1 k hk6]
      rfl
    · rw [if_neg e, pk_un (fun q => e q.symm), h.1.2.2.2.1 i hi, Int32.add_zero]
      rfl
  · show knO c = opF _ 6
    rw [op_s1 e1 6]
    exact h.1.2.2.2.2.1
  · show ksm c + nI a = alF _ (knj c + 1)
    unfold alF
    rw [al_cong (knj c) c0, p0, if_neg (fun q => st_ne9 (n := k) (by omega) (p2.symm.trans q)), h.1.2.2.2.2.2.1]
    rfl
  · exact h.1.2.2.2.2.2.2.1.trans (adds_s s (knj c) _ _ _ (by decide) (by decide)).symm
  · exact h.1.2.2.2.2.2.2.2.1.trans (adds_s s (knj c) _ _ _ (by decide) (by decide)).symm
  · exact h.1.2.2.2.2.2.2.2.2.trans (adds_s s (knj c) _ _ _ (by decide) (by decide)).symm
  · have hi : i < knj c + 1 := hi
    by_cases e : i = knj c
    · refine ⟨a, b, ha1, ha2, hb, ?_, ?_⟩
      · rw [adds_at, if_neg (by omega), if_neg (by omega), if_neg (by omega), if_neg (by omega), if_pos (by omega)]
      · rw [adds_at, if_neg (by omega), if_neg (by omega), if_neg (by omega), if_pos (by omega)]
    · have q0 := adds_lo s (show i < knj c by omega) (nI a) (nI b) (nI k) 0 (by decide)
      have q1 := adds_lo s (show i < knj c by omega) (nI a) (nI b) (nI k) 1 (by decide)
      rw [Nat.add_zero] at q0
      rw [q0, q1]
      exact h.2.1.1 i (by omega)
  · have hi : i < knj c + 1 := hi
    by_cases e : i = knj c
    · rw [adds_at, if_neg (by omega), if_neg (by omega), if_pos (by omega)]
      exact Or.inr ⟨k, kv, rfl⟩
    · rw [adds_lo s (show i < knj c by omega) (nI a) (nI b) (nI k) 2 (by decide)]
      exact h.2.1.2.1 i (by omega)
  · rw [adds_s s (knj c) _ _ _ (by decide) (by decide)]
    exact h.2.1.2.2
  · rcases h.2.2.2 with q | q
    · exact Or.inl q
    · exact Or.inr (by rw [opC_s1 e1]; exact q)
theorem add_eq {c : CS} {s : Nat → Int32} (h : R2 c s) (p q r : Int32) : (fNewJob c p q r).1 = (gAdds s (knv c) (knj c) p q r).1 ∧ R2 (fNewJob c p q r).2 (gAdds s (knv c) (knj c) p q r).2 := by
  unfold fNewJob gAdds
  by_cases g : pIn p 1 1000 ∧ pIn q 0 100 ∧ pHas (knv c) r
  · rw [if_pos (show (¬ p < 1 ∧ ¬ 1000 < p) ∧ (¬ q < 0 ∧ ¬ 100 < q) ∧ pHasS c r from g), if_pos g]
    obtain ⟨a, ha1, ha2, rfl⟩ := rng_of (lo := 1) (hi := 1000) (by decide) g.1 (by decide)
    obtain ⟨b, _, hb, rfl⟩ := rng_of (lo := 0) (hi := 100) (by decide) g.2.1 (by decide)
    obtain ⟨k, hk, rfl⟩ := has_ex g.2.2 (by have := h.1.1.2.1; omega)
    have hk6 := rc_v h.1 hk
    have hn := h.1.1.2.2.2
    by_cases o : pMOpen s (knv c) (nI k)
    · rw [if_pos ((rc_op h.1 hk6).mpr o), if_pos o]
      by_cases w : knj c < 24
      · have w1 : nI (knj c) < 24 := (nI_ltI (b := 24) (by omega) (by decide)).mpr w
        have w2 : ¬ nI (knj c) = 24 := fun e => by
          have := (nI_eq (a := knj c) (b := 24) (by omega) (by decide)).mp e
          omega
        rw [if_pos w1, if_neg w2]
        exact ⟨rfl, R2_add h ha1 ha2 hb hk6 o w⟩
      · have w1 : ¬ nI (knj c) < 24 := fun e => w ((nI_ltI (b := 24) (by omega) (by decide)).mp e)
        have w2 : nI (knj c) = 24 := by rw [show knj c = 24 from by omega]; rfl
        rw [if_neg w1, if_pos w2]
        exact ⟨rfl, h⟩
    · rw [if_neg (fun e => o ((rc_op h.1 hk6).mp e)), if_neg o]
      exact ⟨rfl, h⟩
  · rw [if_neg (show ¬ ((¬ p < 1 ∧ ¬ 1000 < p) ∧ (¬ q < 0 ∧ ¬ 100 < q) ∧ pHasS c r) from g), if_neg g]
    exact ⟨rfl, h⟩
/-! budget and factor -/
theorem R2_bf {c : CS} {s : Nat → Int32} (h : R2 c s) (w f : Int32) (hf : ∃ n : Nat, 100 ≤ n ∧ n ≤ 400 ∧ f = nI n) : R2 (ufa (ubu c w) f) (upd (upd s 3 w) 4 f) := by
  have ev : ∀ i, i ≠ 3 → i ≠ 4 → upd (upd s 3 w) 4 f i = s i := fun i h3 h4 => by
    unfold upd
    rw [if_neg h4, if_neg h3]
  have c0 : ∀ i, i < knj c → mOf (upd (upd s 3 w) 4 f) (nI i) 2 = mOf s (nI i) 2 ∧ mOf (upd (upd s 3 w) 4 f) (nI i) 0 = mOf s (nI i) 0 := fun i hi => by
    have hi24 := rc_j h.1 hi
    rw [mOf_2 _ hi24, mOf_2 _ hi24, mOf_0 _ hi24, mOf_0 _ hi24]
    exact ⟨ev _ (by omega) (by omega), ev _ (by omega) (by omega)⟩
  have e1 := ev 1 (by decide) (by decide)
  have M : MI (upd (upd s 3 w) 4 f) (knv c) (knj c) := MI_upd 4 f (by decide) (by decide) (MI_upd 3 w (by decide) (by decide) h.1.1)
  refine ⟨⟨M, fun i hi => ?_, fun i hi => ?_, fun i hi => ?_, ?_, ?_, ?_, ?_, ?_⟩, ⟨fun i hi => ?_, fun i hi => ?_, ?_⟩, ⟨M, fun i hi => ?_⟩, ?_⟩
  · rw [ev _ (by omega) (by omega), ev _ (by omega) (by omega), ev _ (by omega) (by omega), ev _ (by omega) (by omega)]
    exact h.1.2.1 i hi
  · rw [e1]
    exact h.1.2.2.1 i hi
  · show kld c i = loF _ (nI i) (knj c)
    rw [lo_cong (nI i) (knj c) c0]
    exact h.1.2.2.2.1 i hi
  · show knO c = opF _ 6
    rw [op_s1 e1 6]
    exact h.1.2.2.2.2.1
  · show ksm c = alF _ (knj c)
    rw [al_cong (knj c) c0]
    exact h.1.2.2.2.2.2.1
  · rfl
  · rfl
  · exact h.1.2.2.2.2.2.2.2.2.trans (ev 5 (by decide) (by decide)).symm
  · rw [ev _ (by omega) (by omega), ev _ (by omega) (by omega)]
    exact h.2.1.1 i hi
  · rw [ev _ (by omega) (by omega)]
    exact h.2.1.2.1 i hi
  · exact hf
  · rw [(c0 i hi).1]
    exact (h.2.2.1.2 i hi).imp id (fun q => open_s1 e1 q)
  · rcases h.2.2.2 with q | q
    · exact Or.inl q
    · exact Or.inr (by rw [opC_s1 e1]; exact q)
theorem upd_self (f : Nat → Int32) (k : Nat) : upd f k (f k) = f := by
  funext i
  unfold upd
  split
  · rename_i e
    rw [e]
  · rfl
theorem R2_bu {c : CS} {s : Nat → Int32} (h : R2 c s) (w : Int32) : R2 (ubu c w) (upd s 3 w) := by
  have T := R2_bf h w (s 4) h.2.1.2.2
  have e : upd (upd s 3 w) 4 (s 4) = upd s 3 w := by
    have q := upd_self (upd s 3 w) 4
    rwa [show upd s 3 w 4 = s 4 from rfl] at q
  rw [e, ← h.1.2.2.2.2.2.2.2.1] at T
  exact T
theorem R2_fa {c : CS} {s : Nat → Int32} (h : R2 c s) {n : Nat} (h1 : 100 ≤ n) (h2 : n ≤ 400) : R2 (ufa c (nI n)) (upd s 4 (nI n)) := by
  have T := R2_bf h (s 3) (nI n) ⟨n, h1, h2, rfl⟩
  rw [upd_self s 3, ← h.1.2.2.2.2.2.2.1] at T
  exact T
/-! servers open and close -/
theorem rC_bits {c : CS} {s t : Nat → Int32} (h : rC c s) (nv' : Nat) (hv' : nv' ≤ 6) (op' : Nat → Int32) (nO' : Int32) (ht0 : t 0 = nI nv') (ht : ∀ i, i ≠ 0 → i ≠ 1 → t i = s i) (hO : ∀ k, k < 6 → op' k = (if bt (t 1) k = true then 1 else 0) ∧ (nv' ≤ k → bt (t 1) k = false)) (hn : nO' = mOpens t) : rC (unO (unv (uop c op') nv') nO') t := by
  have c0 : ∀ i, i < knj c → mOf t (nI i) 2 = mOf s (nI i) 2 ∧ mOf t (nI i) 0 = mOf s (nI i) 0 := fun i hi => by
    have hi24 := rc_j h hi
    rw [mOf_2 _ hi24, mOf_2 _ hi24, mOf_0 _ hi24, mOf_0 _ hi24]
    exact ⟨ht _ (by omega) (by omega), ht _ (by omega) (by omega)⟩
  refine ⟨⟨ht0, hv', (ht 2 (by decide) (by decide)).trans h.1.2.2.1, h.1.2.2.2⟩, fun i hi => ?_, hO, fun i hi => ?_, hn, ?_, ?_, ?_, ?_⟩
  · rw [ht _ (by omega) (by omega), ht _ (by omega) (by omega), ht _ (by omega) (by omega), ht _ (by omega) (by omega)]
    exact h.2.1 i hi
  · show kld c i = loF t (nI i) (knj c)
    rw [lo_cong (nI i) (knj c) c0]
    exact h.2.2.2.1 i hi
  · show ksm c = alF t (knj c)
    rw [al_cong (knj c) c0]
    exact h.2.2.2.2.2.1
  · exact h.2.2.2.2.2.2.1.trans (ht 3 (by decide) (by decide)).symm
  · exact h.2.2.2.2.2.2.2.1.trans (ht 4 (by decide) (by decide)).symm
  · exact h.2.2.2.2.2.2.2.2.trans (ht 5 (by decide) (by decide)).symm
theorem rS_bits {s t : Nat → Int32} {nv nv' nj : Nat} (hS : rS s nv nj) (hv : nv ≤ nv') (ht : ∀ i, i ≠ 0 → i ≠ 1 → t i = s i) : rS t nv' nj := by
  refine ⟨fun i hi => ?_, fun i hi => ?_, ?_⟩
  · rw [ht _ (by omega) (by omega), ht _ (by omega) (by omega)]
    exact hS.1 i hi
  · rw [ht _ (by omega) (by omega)]
    exact (hS.2.1 i hi).imp id (fun ⟨k, a, b⟩ => ⟨k, by omega, b⟩)
  · rw [ht _ (by omega) (by omega)]
    exact hS.2.2
theorem opC_set {s t : Nat → Int32} {n : Nat} (hn : n < 6) (e : t 1 = s 1 ||| ((1 : Int32) <<< (nI n &&& 31))) (hb : bt (s 1) n = false) : opC t = opC s + 1 := by
  have q := fb_ct_upd (fun i => bt (s 1) i) true (i := n) (n := 6) hn
  have q2 : fb_ct (fun i => bt (t 1) i) 6 = fb_ct (fun k => if k = n then true else bt (s 1) k) 6 := fb_ct_cong (fun k hk => by
    rw [e, bt_set (s 1) (by omega) (by omega)]
    by_cases g : k = n
    · rw [if_pos g, decide_eq_true g, Bool.or_true]
    · rw [if_neg g, decide_eq_false g, Bool.or_false])
  unfold opC
  rw [q2]
  simp only [hb] at q
  simpa using q
theorem opC_clr {s t : Nat → Int32} {n : Nat} (hn : n < 6) (e : t 1 = s 1 &&& (((1 : Int32) <<< (nI n &&& 31)) ^^^ (-1))) (hb : bt (s 1) n = true) : opC t + 1 = opC s := by
  have q := fb_ct_upd (fun i => bt (s 1) i) false (i := n) (n := 6) hn
  have q2 : fb_ct (fun i => bt (t 1) i) 6 = fb_ct (fun k => if k = n then false else bt (s 1) k) 6 := fb_ct_cong (fun k hk => by
    rw [e, bt_clr (s 1) (by omega) (by omega)]
    by_cases g : k = n
    · rw [if_pos g, decide_eq_true g, Bool.not_true, Bool.and_false]
    · rw [if_neg g, decide_eq_false g, Bool.not_false, Bool.and_true])
  unfold opC
  rw [q2]
  simp only [hb] at q
  simpa using q
theorem op_if {c : CS} {s : Nat → Int32} (h : rC c s) {k : Nat} (hk : k < 6) : kop c k = if bt (s 1) k = true then 1 else 0 := (h.2.2.1 k hk).1
theorem R2_open {c : CS} {s : Nat → Int32} (h : R2 c s) {k : Nat} (hk : k < knv c) (hb : bt (s 1) k = false) : R2 (unO (uop c (pT 6 (kop c) (nI k) 1)) (knO c + 1)) (mOpenS s (nI k)) ∧ mOpens (mOpenS s (nI k)) = knO c + 1 := by
  have hk6 := rc_v h.1 hk
  have e1 : mOpenS s (nI k) 1 = s 1 ||| ((1 : Int32) <<< (nI k &&& 31)) := rfl
  have ht : ∀ i, i ≠ 0 → i ≠ 1 → mOpenS s (nI k) i = s i := fun i _ g => if_neg g
  have eo : mOpens (mOpenS s (nI k)) = knO c + 1 := by
    rw [(opens_ct _).1, opC_set hk6 e1 hb, h.1.2.2.2.2.1, (opens_ct s).1, nI_1]
  have C := rC_bits (t := mOpenS s (nI k)) h.1 (knv c) h.1.1.2.1 (pT 6 (kop c) (nI k) 1) (knO c + 1) h.1.1.1 ht (fun i hi => by
    rw [e1, bt_set (s 1) (by omega) (by omega), pT_nI hk6 (by decide)]
    unfold upd
    have g := h.1.2.2.1 i hi
    by_cases e : i = k
    · rw [if_pos e, decide_eq_true e, Bool.or_true, if_pos rfl]
      exact ⟨rfl, fun w => by omega⟩
    · rw [if_neg e, decide_eq_false e, Bool.or_false]
      exact g) eo.symm
  refine ⟨⟨C, rS_bits h.2.1 (Nat.le_refl _) ht, ⟨C.1, fun i hi => ?_⟩, Or.inr ?_⟩, eo⟩
  · have hi24 := rc_j h.1 hi
    rw [mOf_2 _ hi24, ht _ (by omega) (by omega), ← mOf_2 s hi24]
    refine (h.2.2.1.2 i hi).imp id (fun q => ?_)
    obtain ⟨x, hx, ex⟩ := has_ex q.1 (by have := h.1.1.2.1; omega)
    rw [ex] at q ⊢
    have x6 := rc_v h.1 hx
    refine ⟨q.1, (bit_on (by omega)).mpr ?_⟩
    rw [e1, bt_set (s 1) (by omega) (by omega), (bit_on (by omega)).mp q.2, Bool.true_or]
  · rw [opC_set hk6 e1 hb]
    omega
theorem R2_srv {c : CS} {s : Nat → Int32} (h : R2 c s) (hv : knv c < 6) : R2 (unO (unv (uop c (pT 6 (kop c) (nI (knv c)) 1)) (knv c + 1)) (knO c + 1)) (mAddS s (knv c)) := by
  have hb : bt (s 1) (knv c) = false := (h.1.2.2.1 (knv c) hv).2 (Nat.le_refl _)
  have e1 : mAddS s (knv c) 1 = s 1 ||| ((1 : Int32) <<< (nI (knv c) &&& 31)) := rfl
  have ht : ∀ i, i ≠ 0 → i ≠ 1 → mAddS s (knv c) i = s i := fun i g0 g => by
    unfold mAddS upd
    rw [if_neg g0, if_neg g]
  have eo : mOpens (mAddS s (knv c)) = knO c + 1 := by
    rw [(opens_ct _).1, opC_set hv e1 hb, h.1.2.2.2.2.1, (opens_ct s).1, nI_1]
  have C := rC_bits (t := mAddS s (knv c)) h.1 (knv c + 1) (by omega) (pT 6 (kop c) (nI (knv c)) 1) (knO c + 1) rfl ht (fun i hi => by
    rw [e1, bt_set (s 1) (by omega) (by omega), pT_nI hv (by decide)]
    unfold upd
    have g := h.1.2.2.1 i hi
    by_cases e : i = knv c
    · rw [if_pos e, decide_eq_true e, Bool.or_true, if_pos rfl]
      exact ⟨rfl, fun w => by omega⟩
    · rw [if_neg e, decide_eq_false e, Bool.or_false]
      exact ⟨g.1, fun w => g.2 (by omega)⟩) eo.symm
  refine ⟨C, rS_bits h.2.1 (by show knv c ≤ knv c + 1; omega) ht, ⟨C.1, fun i hi => ?_⟩, Or.inr ?_⟩
  · have hi : i < knj c := hi
    have hi24 := rc_j h.1 hi
    rw [mOf_2 _ hi24, ht _ (by omega) (by omega), ← mOf_2 s hi24]
    refine (h.2.2.1.2 i hi).imp id (fun q => ?_)
    obtain ⟨x, hx, ex⟩ := has_ex q.1 (by omega)
    rw [ex] at q ⊢
    refine ⟨has_ofN (n := knv c + 1) (by omega) (by omega), (bit_on (by omega)).mpr ?_⟩
    rw [e1, bt_set (s 1) (by omega) (by omega), (bit_on (by omega)).mp q.2, Bool.true_or]
  · rw [opC_set hv e1 hb]
    omega
theorem rC_shut {c : CS} {s : Nat → Int32} (h : rC c s) {k : Nat} (hk : k < knv c) (hb : bt (s 1) k = true) : rC (sShut c (nI k)) (mShut s (nI k)) := by
  have hk6 := rc_v h hk
  have e1 : mShut s (nI k) 1 = s 1 &&& (((1 : Int32) <<< (nI k &&& 31)) ^^^ (-1)) := rfl
  have ht : ∀ i, i ≠ 0 → i ≠ 1 → mShut s (nI k) i = s i := fun i _ g => if_neg g
  have eo : knO c - 1 = mOpens (mShut s (nI k)) := by
    have q := opC_clr hk6 e1 hb
    rw [h.2.2.2.2.1, (opens_ct s).1, (opens_ct (mShut s (nI k))).1, ← q, nI_pred]
  exact rC_bits (t := mShut s (nI k)) h (knv c) h.1.2.1 (pT 6 (kop c) (nI k) 0) (knO c - 1) h.1.1 ht (fun i hi => by
    rw [e1, bt_clr (s 1) (by omega) (by omega), pT_nI hk6 (by decide)]
    unfold upd
    have g := h.2.2.1 i hi
    by_cases e : i = k
    · rw [if_pos e, decide_eq_true e, Bool.not_true, Bool.and_false]
      exact ⟨rfl, fun _ => rfl⟩
    · rw [if_neg e, decide_eq_false e, Bool.not_false, Bool.and_true]
      exact g) eo
