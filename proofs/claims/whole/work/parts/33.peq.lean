/-! ===== the step of the plan: the class's offers and the reference's keys ===== -/
def keyN (t p j k : Nat) : Nat := t * 100000000 + p * 10000 + j * 100 + k
theorem key_nI {t p j k : Nat} (ht : t < 1000000) (hp : p < 1000000) (hj : j < 1000) (hk : k < 1000) : keyOf (nI t) (nI p) (nI j) (nI k) = lN (keyN t p j k) := by
  unfold keyOf
  rw [nI_l (by omega), nI_l (by omega), nI_l (by omega), nI_l (by omega)]
  show lN t * lN 100000000 + lN p * lN 10000 + lN j * lN 100 + lN k = _
  rw [lN_mul, lN_mul, lN_mul, lN_add, lN_add, lN_add]
  rfl
def tie (L : Nat) (x : SS) (y : F5) (pos : Nat) : Prop := (kSjob x = -9 ∧ f1 y = -9 ∧ kSgreater x = nI L ∧ fb y = lN (L * 100000000)) ∨ ∃ (t p j o : Nat) (g w : Int32), x = (nI j, g, w, nI p, nI t) ∧ y = (lN (keyN t p j o), (nI j, (g, (w, nI p)))) ∧ t < L ∧ p ≤ 200 ∧ j < 24 ∧ o < 24 ∧ 100 * j + o < pos
theorem tie_mono {L : Nat} {x : SS} {y : F5} {a b : Nat} (h : tie L x y a) (hab : a ≤ b) : tie L x y b := by
  rcases h with h | ⟨t, p, j, o, g, w, e1, e2, h1, h2, h3, h4, h5⟩
  · exact Or.inl h
  · exact Or.inr ⟨t, p, j, o, g, w, e1, e2, h1, h2, h3, h4, by omega⟩
theorem tie_step {L : Nat} {x : SS} {y : F5} {pos : Nat} (hL : L ≤ 24000) (h : tie L x y pos) {t p j o : Nat} (g w : Int32) (ht : t ≤ 60000) (hp : p ≤ 200) (hj : j < 24) (ho : o < 24) (hpos : pos ≤ 100 * j + o) : tie L (sOffer x (nI j) g w (nI p) (nI t)) (if fb y ≤ lN (keyN t p j o) then y else (lN (keyN t p j o), (nI j, (g, (w, nI p))))) (100 * j + o + 1) := by
  unfold sOffer
  rcases h with ⟨a1, a2, a3, a4⟩ | ⟨t', p', j', o', g', w', rfl, rfl, b1, b2, b3, b4, b5⟩
  · have k1 : (nI t < kSgreater x ∨ (¬ kSjob x = -9 ∧ nI t = kSgreater x ∧ ¬ kSprice x ≤ nI p)) ↔ t < L := by
      rw [a3]
      constructor
      · rintro (q | q)
        · exact (nI_ltI (by omega) (by omega)).mp q
        · exact absurd a1 q.1
      · intro q
        exact Or.inl ((nI_ltI (by omega) (by omega)).mpr q)
    have k2 : (fb y ≤ lN (keyN t p j o)) ↔ ¬ t < L := by
      rw [a4, pk_lLE (by omega) (by unfold keyN; omega)]
      unfold keyN
      omega
    by_cases q : t < L
    · rw [if_pos (k1.mpr q), if_neg (fun r => k2.mp r q)]
      exact Or.inr ⟨t, p, j, o, g, w, rfl, rfl, q, hp, hj, ho, by omega⟩
    · rw [if_neg (fun r => q (k1.mp r)), if_pos (k2.mpr q)]
      exact Or.inl ⟨a1, a2, a3, a4⟩
  · have k1 : (nI t < kSgreater (nI j', g', w', nI p', nI t') ∨ (¬ kSjob (nI j', g', w', nI p', nI t') = -9 ∧ nI t = kSgreater (nI j', g', w', nI p', nI t') ∧ ¬ kSprice (nI j', g', w', nI p', nI t') ≤ nI p)) ↔ (t < t' ∨ (t = t' ∧ p < p')) := by
      show (nI t < nI t' ∨ (¬ nI j' = -9 ∧ nI t = nI t' ∧ ¬ nI p' ≤ nI p)) ↔ _
      rw [nI_ltI (by omega) (by omega), nI_eq (by omega) (by omega), nI_leI (by omega) (by omega)]
      have j9 := st_ne9 (n := j') (by omega)
      constructor
      · rintro (q | ⟨_, q, r⟩)
        · exact Or.inl q
        · exact Or.inr ⟨q, by omega⟩
      · rintro (q | ⟨q, r⟩)
        · exact Or.inl q
        · exact Or.inr ⟨j9, q, by omega⟩
    have k2 : (fb ((lN (keyN t' p' j' o'), (nI j', (g', (w', nI p')))) : F5) ≤ lN (keyN t p j o)) ↔ ¬ (t < t' ∨ (t = t' ∧ p < p')) := by
      show lN (keyN t' p' j' o') ≤ lN (keyN t p j o) ↔ _
      rw [pk_lLE (by unfold keyN; omega) (by unfold keyN; omega)]
      unfold keyN
      omega
    by_cases q : t < t' ∨ (t = t' ∧ p < p')
    · rw [if_pos (k1.mpr q), if_neg (fun r => k2.mp r q)]
      exact Or.inr ⟨t, p, j, o, g, w, rfl, rfl, by omega, hp, hj, ho, by omega⟩
    · rw [if_neg (fun r => q (k1.mp r)), if_pos (k2.mpr q)]
      exact Or.inr ⟨t', p', j', o', g', w', rfl, rfl, b1, b2, b3, b4, by omega⟩
theorem tie_pos {L : Nat} {x : SS} {y : F5} {pos : Nat} (h : tie L x y pos) (b : Int32) : ((¬ kSjob x = -9 ∧ ¬ b < kSprice x) ↔ (¬ f1 y = -9 ∧ ¬ b < f4 y)) ∧ (¬ f1 y = -9 → kSjob x = f1 y ∧ kSgoal x = f2 y ∧ kSother x = f3 y ∧ kSprice x = f4 y) := by
  rcases h with ⟨a1, a2, a3, a4⟩ | ⟨t', p', j', o', g', w', rfl, rfl, b1, b2, b3, b4, b5⟩
  · exact ⟨⟨fun q => absurd a1 q.1, fun q => absurd a2 q.1⟩, fun q => absurd a2 q⟩
  · exact ⟨Iff.rfl, fun _ => ⟨rfl, rfl, rfl, rfl⟩⟩
theorem mx_nI {a b : Nat} (ha : a < 2 ^ 31) (hb : b < 2 ^ 31) : mx (nI a) (nI b) = nI (max a b) := by
  show (if nI a < nI b then nI b else nI a) = _
  by_cases q : a < b
  · rw [if_pos ((nI_ltI ha hb).mpr q), Nat.max_eq_right (by omega)]
  · rw [if_neg (fun r => q ((nI_ltI ha hb).mp r)), Nat.max_eq_left (by omega)]
theorem gT_nI {a b : Nat} (ha : a < 2 ^ 31) (hb : b < 2 ^ 31) : gT (nI a) (nI b) = nI (max a b) := by
  unfold gT
  by_cases q : a ≤ b
  · rw [if_pos ((nI_leI ha hb).mpr q), Nat.max_eq_right q]
  · rw [if_neg (fun r => q ((nI_leI ha hb).mp r)), Nat.max_eq_left (by omega)]
theorem i_as {a b d : Nat} (h : b ≤ a) : nI a + (nI d - nI b) = nI (a - b + d) := by
  have e : nI a = nI (a - b) + nI b := by rw [nI_add, Nat.sub_add_cancel h]
  rw [e, Int32.add_assoc, Int32.add_comm (nI b), Int32.sub_add_cancel, nI_add]
theorem i_ss {a b d : Nat} (h : b ≤ a) : nI a - (nI b - nI d) = nI (a - b + d) := by
  rw [Int32.sub_eq_add_neg, Int32.neg_sub, i_as h]
theorem pr_nI {s : Nat → Int32} {nv nj : Nat} (h : rS s nv nj) (hn : nj ≤ 24) {j : Nat} (hj : j < nj) : ∃ b : Nat, b ≤ 100 ∧ mOf s (nI j) 1 = nI b := by
  obtain ⟨a, b, h1, h2, h3, h4, h5⟩ := h.1 j hj
  exact ⟨b, h3, by rw [mOf_1 s (by omega)]; exact h5⟩
theorem mv_in {c : CS} {s : Nat → Int32} (h : R2 c s) {f j : Nat} (hf : f < knv c) (hj : j < knj c) (hp : mOf s (nI j) 2 = nI f) {x : SS} {y : F5} (T : tie (loN s (nI f) (knj c)) x y (100 * j)) : ∀ k, k ≤ knv c → tie (loN s (nI f) (knj c)) (mvIn c (nI f) (nI j) x k) (fmIn s (knv c) (knj c) (nI f) (nI j) y k) (100 * j + k)
  | 0, _ => T
  | k + 1, hk => by
    have ih := mv_in h hf hj hp T k (by omega)
    have hk6 := rc_v h.1 (show k < knv c by omega)
    have hf6 := rc_v h.1 hf
    have hn := h.1.1.2.2.2
    have ho := rc_op h.1 hk6
    have hj24 := rc_j h.1 hj
    unfold mvIn fmIn
    by_cases g : ¬ nI k = nI f ∧ pMOpen s (knv c) (nI k)
    · rw [if_pos (show ¬ nI k = nI f ∧ aT 6 (kop c) (nI k) = 1 from ⟨g.1, ho.mpr g.2⟩), if_pos g]
      obtain ⟨p, hp100, ep⟩ := pr_nI h.2.1 hn hj
      have gz := sz_nI h.2.1 hj
      have ez : mOf s (nI j) 0 = nI (szN s j) := by rw [mOf_0 s hj24]; exact gz.1
      have lf := ld_nI h.2.1 hn (nI f)
      have lk := ld_nI h.2.1 hn (nI k)
      have le := lo_part hp (knj c) hj
      rw [rc_pr h.1 hj, rc_sz h.1 hj, rc_ld h.1 hf6, rc_ld h.1 hk6]
      unfold keyM
      rw [ep, ez, lf.1, lk.1, pk_sub le, nI_add, mx_nI (by omega) (by omega), gT_nI (by omega) (by omega), key_nI (by omega) (by omega) (by omega) (by omega)]
      exact tie_step (by omega) ih _ _ (by omega) (by omega) hj24 (by omega) (Nat.le_refl _)
    · rw [if_neg (show ¬ (¬ nI k = nI f ∧ aT 6 (kop c) (nI k) = 1) from fun q => g ⟨q.1, ho.mp q.2⟩), if_neg g]
      exact tie_mono ih (by omega)
theorem mv_out {c : CS} {s : Nat → Int32} (h : R2 c s) {f : Nat} (hf : f < knv c) {x : SS} {y : F5} (T : tie (loN s (nI f) (knj c)) (sStart x (aT 6 (kld c) (nI f))) y 0) : ∀ j, j ≤ knj c → tie (loN s (nI f) (knj c)) (mvOut c (nI f) x j) (fmOut s (knv c) (knj c) (nI f) y j) (100 * j)
  | 0, _ => T
  | j + 1, hj => by
    have ih := mv_out h hf T j (by omega)
    have hv := h.1.1.2.1
    unfold mvOut fmOut
    rw [rc_pl h.1 (show j < knj c by omega)]
    by_cases g : mOf s (nI j) 2 = nI f
    · rw [if_pos g, if_pos g]
      exact tie_mono (mv_in h hf (by omega) g ih (knv c) (Nat.le_refl _)) (by omega)
    · rw [if_neg g, if_neg g]
      exact tie_mono ih (by omega)
theorem ex_in {c : CS} {s : Nat → Int32} (h : R2 c s) {f j : Nat} (hf : f < knv c) (hj : j < knj c) (hp : mOf s (nI j) 2 = nI f) {x : SS} {y : F5} (T : tie (loN s (nI f) (knj c)) x y (100 * j)) : ∀ o, o ≤ knj c → tie (loN s (nI f) (knj c)) (exIn c (nI f) (nI j) x o) (feIn s (knj c) (nI f) (nI j) y o) (100 * j + o)
  | 0, _ => T
  | o + 1, ho => by
    have ih := ex_in h hf hj hp T o (by omega)
    have hf6 := rc_v h.1 hf
    have hn := h.1.1.2.2.2
    have hj24 := rc_j h.1 hj
    have hoj : o < knj c := by omega
    have ho24 := rc_j h.1 hoj
    unfold exIn feIn
    rw [rc_pl h.1 hoj]
    by_cases g : ¬ mOf s (nI o) 2 = -9 ∧ ¬ mOf s (nI o) 2 = nI f
    · rw [if_pos (show ¬ mOf s (nI o) 2 = nI f ∧ ¬ mOf s (nI o) 2 = -9 from ⟨g.2, g.1⟩), if_pos g]
      obtain ⟨p, hp100, ep⟩ := pr_nI h.2.1 hn hj
      obtain ⟨p2, hp2100, ep2⟩ := pr_nI h.2.1 hn hoj
      obtain ⟨b, hb, hb6, eb, ob⟩ := place_nI h.2.2.1 hoj g.1
      have gz := sz_nI h.2.1 hj
      have ez : mOf s (nI j) 0 = nI (szN s j) := by rw [mOf_0 s hj24]; exact gz.1
      have gz2 := sz_nI h.2.1 hoj
      have ez2 : mOf s (nI o) 0 = nI (szN s o) := by rw [mOf_0 s ho24]; exact gz2.1
      have lf := ld_nI h.2.1 hn (nI f)
      have lb := ld_nI h.2.1 hn (nI b)
      have le := lo_part hp (knj c) hj
      have le2 := lo_part eb (knj c) hoj
      unfold keyE
      rw [rc_pr h.1 hj, rc_sz h.1 hj, rc_pr h.1 hoj, rc_sz h.1 hoj, eb, rc_ld h.1 hf6, rc_ld h.1 hb6]
      rw [ep, ep2, ez, ez2, lf.1, lb.1, i_ss le, i_as le2, i_as le, i_ss le2, nI_add, mx_nI (by omega) (by omega), gT_nI (by omega) (by omega), key_nI (by omega) (by omega) (by omega) (by omega)]
      exact tie_step (by omega) ih _ _ (by omega) (by omega) hj24 (by omega) (Nat.le_refl _)
    · rw [if_neg (show ¬ (¬ mOf s (nI o) 2 = nI f ∧ ¬ mOf s (nI o) 2 = -9) from fun q => g ⟨q.2, q.1⟩), if_neg g]
      exact tie_mono ih (by omega)
theorem ex_out {c : CS} {s : Nat → Int32} (h : R2 c s) {f : Nat} (hf : f < knv c) {x : SS} {y : F5} (T : tie (loN s (nI f) (knj c)) (sStart x (aT 6 (kld c) (nI f))) y 0) : ∀ j, j ≤ knj c → tie (loN s (nI f) (knj c)) (exOut c (nI f) x j) (feOut s (knj c) (nI f) y j) (100 * j)
  | 0, _ => T
  | j + 1, hj => by
    have ih := ex_out h hf T j (by omega)
    have hn := h.1.1.2.2.2
    unfold exOut feOut
    rw [rc_pl h.1 (show j < knj c by omega)]
    by_cases g : mOf s (nI j) 2 = nI f
    · rw [if_pos g, if_pos g]
      exact tie_mono (ex_in h hf (by omega) g ih (knj c) (Nat.le_refl _)) (by omega)
    · rw [if_neg g, if_neg g]
      exact tie_mono ih (by omega)
theorem tie_start {c : CS} {z : MS} (h : R2 c (kMs z)) {f : Nat} (hf : f < knv c) (x : SS) (w : MS) (hw : kMs w = kMs z) : tie (loN (kMs z) (nI f) (knj c)) (sStart x (aT 6 (kld c) (nI f))) (fSt w (knj c) (nI f)) 0 := by
  have lf := ld_nI h.2.1 h.1.1.2.2.2 (nI f)
  refine Or.inl ⟨rfl, rfl, ?_, ?_⟩
  · show aT 6 (kld c) (nI f) = _
    rw [rc_ld h.1 (rc_v h.1 hf), lf.1]
  · show (mLoad (kMs w) (knj c) (nI f)).toInt64 * 100000000 = _
    rw [hw, lf.1, nI_l (by omega)]
    show lN _ * lN 100000000 = _
    rw [lN_mul]
theorem choose_eq {c : CS} {z : MS} (h : R2 c (kMs z)) (x : SS) : (pChoose c (sTarget c) x ↔ pFind z (knv c) (knj c)) ∧ (pFind z (knv c) (knj c) → kSjob (sChoose c (sTarget c) x) = kMsj (gFind z (knv c) (knj c)) ∧ kSgoal (sChoose c (sTarget c) x) = kMsv (gFind z (knv c) (knj c)) ∧ kSother (sChoose c (sTarget c) x) = kMso (gFind z (knv c) (knj c)) ∧ kSprice (sChoose c (sTarget c) x) = kMsp (gFind z (knv c) (knj c))) := by
  have hev := rc_even h.1 h.2.1 h.2.2.1
  have hev2 : (sTarget c < aT 6 (kld c) (sFull c)) ↔ ¬ pMEven (kMs z) (knv c) (knj c) := by
    constructor
    · exact fun q e => (hev.mpr e) q
    · exact fun q => Decidable.byContradiction (fun r => q (hev.mp r))
  by_cases e : pMEven (kMs z) (knv c) (knj c)
  · exact ⟨⟨fun q => absurd e (hev2.mp q.1), fun q => absurd e q.1⟩, fun q => absurd e q.1⟩
  · obtain ⟨f, hf, ef, of⟩ := full_ok h.2.2.1 e
    have hlt := hev2.mpr e
    have es : sFull c = nI f := (rc_full h.1).trans ef
    have TM : tie (loN (kMs z) (nI f) (knj c)) (sChM c (nI f) x) (mFM z (knv c) (knj c) (nI f)) (100 * knj c) := mv_out h hf (tie_start h hf x z rfl) (knj c) (Nat.le_refl _)
    have TE : tie (loN (kMs z) (nI f) (knj c)) (sChE c (nI f) (sChM c (nI f) x)) (mFE (gFM z (knv c) (knj c) (nI f)) (knj c) (nI f)) (100 * knj c) := ex_out h hf (tie_start h hf (sChM c (nI f) x) (gFM z (knv c) (knj c) (nI f)) rfl) (knj c) (Nat.le_refl _)
    have PM := tie_pos TM (kbu c)
    have PE := tie_pos TE (kbu c)
    have eb : kbu c = kMs z 3 := h.1.2.2.2.2.2.2.1
    have qM : pPoss (sChM c (nI f) x) c ↔ pPos (gFM z (knv c) (knj c) (nI f)) := by
      refine PM.1.trans ?_
      rw [eb]
      exact Iff.rfl
    have qE : pPoss (sChE c (nI f) (sChM c (nI f) x)) c ↔ pPos (gFE (gFM z (knv c) (knj c) (nI f)) (knj c) (nI f)) := by
      refine PE.1.trans ?_
      rw [eb]
      exact Iff.rfl
    have W : pChoose c (sTarget c) x ↔ pFind z (knv c) (knj c) := by
      show (sTarget c < aT 6 (kld c) (sFull c) ∧ (pPoss (sChM c (sFull c) x) c ∨ pPoss (sChE c (sFull c) (sChM c (sFull c) x)) c)) ↔ (¬ pMEven (kMs z) (knv c) (knj c) ∧ (pPos (gFM z (knv c) (knj c) (mFull (kMs z) (knv c) (knj c))) ∨ pPos (gFE (gFM z (knv c) (knj c) (mFull (kMs z) (knv c) (knj c))) (knj c) (mFull (kMs z) (knv c) (knj c)))))
      rw [hev2, es, ef, qM, qE]
    refine ⟨W, fun q => ?_⟩
    unfold sChoose gFind
    rw [if_pos hlt, if_neg e, es, ef]
    by_cases m : pPos (gFM z (knv c) (knj c) (nI f))
    · rw [if_pos m, if_pos (qM.mpr m)]
      exact PM.2 m.1
    · rw [if_neg m, if_neg (fun r => m (qM.mp r))]
      have q2 := q.2
      rw [ef] at q2
      exact PE.2 (q2.resolve_left m).1
theorem tk_bnd {c : CS} {j k : Nat} (hj : j < 24) (hk : k < 6) (hp : ¬ aT 24 (kpl c) (nI j) = -9) : ∀ n, n ≤ 24 → bndF (sTake c (nI j) (nI k)) n = bndF c n
  | 0, _ => rfl
  | n + 1, hn => by
    have ih := tk_bnd hj hk hp n (by omega)
    unfold bndF
    rw [ih]
    refine ite_iff ?_ _ _
    show aT 24 (pT 24 (kpl c) (nI j) (nI k)) (nI n) = -9 ↔ aT 24 (kpl c) (nI n) = -9
    rw [pT_nI hj (by decide), aT_nI (show n < 24 by omega) (by decide)]
    by_cases e : n = j
    · subst e
      rw [show upd (kpl c) n (nI k) n = nI k from pk_us]
      exact ⟨fun q => absurd q (st_ne9 (by omega)), fun q => absurd q hp⟩
    · rw [pk_un e, aT_nI (show n < 24 by omega) (by decide)]
theorem tk_target {c : CS} {j k : Nat} (hn : knj c ≤ 24) (hj : j < 24) (hk : k < 6) (hp : ¬ aT 24 (kpl c) (nI j) = -9) : sTarget (sTake c (nI j) (nI k)) = sTarget c := by
  have e : sBound (sTake c (nI j) (nI k)) = sBound c := by
    unfold sBound
    rw [show bndF (sTake c (nI j) (nI k)) (knj (sTake c (nI j) (nI k))) = bndF c (knj c) from tk_bnd hj hk hp (knj c) hn]
    rfl
  unfold sTarget
  rw [e]
  rfl
theorem apply_eq {c : CS} {z : MS} (h : R2 c (kMs z)) {x : SS} (hF : pFind z (knv c) (knj c)) (e1 : kSjob x = kMsj (gFind z (knv c) (knj c))) (e2 : kSgoal x = kMsv (gFind z (knv c) (knj c))) (e3 : kSother x = kMso (gFind z (knv c) (knj c))) : R2 (sApply c x) (kMs (mStp (knv c) (knj c) z)) ∧ sTarget (sApply c x) = sTarget c := by
  have hs : kMs (gFind z (knv c) (knj c)) = kMs z := gFind_s z (knv c) (knj c)
  have hV2 : mV (kMs (gFind z (knv c) (knj c))) (knv c) (knj c) := by rw [hs]; exact h.2.2.1
  obtain ⟨f, hf, ef, of⟩ := full_ok h.2.2.1 hF.1
  have hf6 := rc_v h.1 hf
  have hn := h.1.1.2.2.2
  have em : kMs (mStp (knv c) (knj c) z) = (tApp (gFind z (knv c) (knj c)) (knv c) (knj c)).2 := rfl
  rw [em]
  unfold sApply
  rcases find_ok hF with ⟨j, k, hj, hk, a1, a2, a3, a5, a6, a7, h4⟩ | ⟨j, o, hj, ho, a1, a2, a3, a5, a6, a7, h4⟩
  · have hj24 := rc_j h.1 hj
    have hk6 := rc_v h.1 hk
    rw [ef] at a5 a6
    rw [if_pos (e3.trans a3), e1, e2, a1, a2, app_m hV2 hj hk a1 a2 a3 (by rw [hs, a5]; exact st_ne9 (by omega)) (by rw [hs, a5]; exact fun e => a6 e.symm) (by rw [hs]; exact a7) (by rw [hs]; exact h4), hs]
    refine ⟨R2_take h hj a5 hf a7 hk6 (fun e => a6 (by rw [e])), tk_target hn hj24 hk6 ?_⟩
    rw [rc_pl h.1 hj, a5]
    exact st_ne9 (by omega)
  · have hj24 := rc_j h.1 hj
    have ho24 := rc_j h.1 ho
    obtain ⟨b, hb, hb6, eb, ob⟩ := place_nI h.2.2.1 ho a6
    rw [ef] at a5 a7
    have n1 : ¬ mOf (kMs z) (nI j) 2 = -9 := by rw [a5]; exact st_ne9 (by omega)
    have n3 : ¬ mOf (kMs z) (nI j) 2 = mOf (kMs z) (nI o) 2 := by rw [a5]; exact fun e => a7 e.symm
    rw [if_neg (fun q => st_ne9 (n := o) (by omega) (a3.symm.trans (e3.symm.trans q))), e1, e2, e3, a1, a2, a3, app_x hV2 hj ho a1 a3 (by rw [hs]; exact n1) (by rw [hs]; exact a6) (by rw [hs]; exact n3) (by rw [hs]; exact h4), hs]
    have T := R2_exch h hj ho n1 a6 n3
    unfold sExch at T
    rw [rc_pl h.1 ho] at T
    refine ⟨T, ?_⟩
    rw [rc_pl h.1 hj, a5, eb]
    have hoj : ¬ o = j := fun e => n3 (by rw [e])
    have p1 : ¬ aT 24 (kpl c) (nI j) = -9 := by rw [rc_pl h.1 hj]; exact n1
    have p2 : ¬ aT 24 (kpl (sTake c (nI j) (nI b))) (nI o) = -9 := by
      show ¬ aT 24 (pT 24 (kpl c) (nI j) (nI b)) (nI o) = -9
      have r := rc_pl h.1 ho
      rw [aT_nI ho24 (by decide)] at r
      rw [pT_nI hj24 (by decide), aT_nI ho24 (by decide), pk_un hoj, r]
      exact a6
    rw [tk_target (c := sTake c (nI j) (nI b)) hn ho24 hf6 p2, tk_target hn hj24 hb6 p1]
theorem walk_up : ∀ (n : Nat) (c : CS) (z : MS) (x : SS) (t : Int32), R2 c (kMs z) → t = sTarget c → (wkF t n (c, x)).1 = (evF (knv c) (knj c) n z).1 ∧ R2 (wkF t n (c, x)).2.1 (kMs (evF (knv c) (knj c) n z).2)
  | 0, c, z, x, t, h, _ => ⟨rfl, h⟩
  | n + 1, c, z, x, t, h, e => by
    subst e
    have C := choose_eq h x
    unfold wkF evF
    by_cases q : pFind z (knv c) (knj c)
    · rw [if_pos (show pChoose (c, x).1 (sTarget c) (c, x).2 from C.1.mpr q), if_pos q]
      obtain ⟨e1, e2, e3, e4⟩ := C.2 q
      have A := apply_eq h q e1 e2 e3
      have ih := walk_up n (sApply c (sChoose c (sTarget c) x)) (mStp (knv c) (knj c) z) (sChoose c (sTarget c) x) (sTarget c) A.1 A.2.symm
      rw [sApply_nv, sApply_nj] at ih
      exact ⟨congrArg (· + 1) ih.1, ih.2⟩
    · rw [if_neg (show ¬ pChoose (c, x).1 (sTarget c) (c, x).2 from fun r => q (C.1.mp r)), if_neg q]
      refine ⟨rfl, ?_⟩
      show R2 c (kMs (gFind z (knv c) (knj c)))
      rw [gFind_s]
      exact h
theorem walk_eq {c : CS} {z : MS} (h : R2 c (kMs z)) (x : SS) (p : Int32) : (fWalk c x p).1 = (gEvB z (knv c) (knj c) p).1 ∧ R2 (fWalk c x p).2.1 (kMs (gEvB z (knv c) (knj c) p).2) := by
  unfold fWalk gEvB
  by_cases g : pIn p 1 30
  · rw [if_pos (show ¬ p < 1 ∧ p ≤ 30 from ⟨g.1, Int32.not_lt.mp g.2⟩), if_pos g]
    have W := walk_up p.toNatClampNeg c z x (sTarget c) h rfl
    exact ⟨congrArg nI W.1, W.2⟩
  · rw [if_neg (show ¬ (¬ p < 1 ∧ p ≤ 30) from fun q => g ⟨q.1, Int32.not_lt.mpr q.2⟩), if_neg g]
    exact ⟨rfl, h⟩
