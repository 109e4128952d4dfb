/-! ===== closing ===== -/
theorem em_none (s : Nat → Int32) (nv nj : Nat) : ∀ n, n ≤ 6 → mEmF s nv nj n = -9 → ∀ i, i < n → ¬ pMOpen s nv (nI i)
  | 0, _, _ => fun i h => absurd h (Nat.not_lt_zero i)
  | n + 1, hn, e => fun i hi o => by
    unfold mEmF at e
    by_cases g : pMOpen s nv (nI n) ∧ (mEmF s nv nj n = -9 ∨ mLoad s nj (nI n) < mLoad s nj (mEmF s nv nj n))
    · rw [if_pos g] at e
      exact st_ne9 (n := n) (by omega) e
    · rw [if_neg g] at e
      by_cases d : i = n
      · rw [d] at o
        exact g ⟨o, Or.inl e⟩
      · exact em_none s nv nj n (by omega) e i (by omega) o
theorem some_open {s : Nat → Int32} {nv : Nat} (hv : nv ≤ 6) (hO : ∀ k, nv ≤ k → k < 6 → bt (s 1) k = false) (h : 0 < opC s) : ∃ i, i < nv ∧ pMOpen s nv (nI i) := by
  obtain ⟨i, hi, b⟩ := fb_ct_pos.mp h
  have hn : i < nv := Nat.lt_of_not_le (fun g => by rw [hO i g hi] at b; cases b)
  exact ⟨i, hn, has_ofN hn (by omega), (bit_on (by omega)).mpr b⟩
theorem em_pos {s : Nat → Int32} {nv nj : Nat} (hv : nv ≤ 6) (h : ∃ i, i < nv ∧ pMOpen s nv (nI i)) : ∃ e, e < nv ∧ mEmpty s nv nj = nI e ∧ pMOpen s nv (nI e) := by
  obtain ⟨i, hi, o⟩ := h
  have n9 : ¬ mEmF s nv nj nv = -9 := fun e => em_none s nv nj nv hv e i hi o
  have w := (mEmF_or s nv nj nv).resolve_left n9
  obtain ⟨e, he, ee⟩ := (em_form s nv nj nv).resolve_left n9
  rw [ee] at w
  exact ⟨e, he, ee, w⟩
theorem close_up {c : CS} {s : Nat → Int32} {k : Nat} (hk : k < knv c) (h : rC c s) (hS : rS s (knv c) (knj c)) (hno : ¬ pMOpen s (knv c) (nI k)) (hop : 0 < opC s) (hV : ∀ j, j < knj c → mOf s (nI j) 2 = -9 ∨ mOf s (nI j) 2 = nI k ∨ pMOpen s (knv c) (mOf s (nI j) 2)) : ∀ i, i ≤ mCnt s (nI k) (knj c) → rC (clF c (nI k) i) (emS s (nI k) (knv c) (knj c) i) ∧ rS (emS s (nI k) (knv c) (knj c) i) (knv c) (knj c) ∧ ∀ j, j < knj c → mOf (emS s (nI k) (knv c) (knj c) i) (nI j) 2 = -9 ∨ mOf (emS s (nI k) (knv c) (knj c) i) (nI j) 2 = nI k ∨ pMOpen (emS s (nI k) (knv c) (knj c) i) (knv c) (mOf (emS s (nI k) (knv c) (knj c) i) (nI j) 2)
  | 0, _ => ⟨h, hS, hV⟩
  | i + 1, hi => by
    obtain ⟨C, S, V⟩ := close_up hk h hS hno hop hV i (by omega)
    have hv := h.1.2.1
    have hn := h.1.2.2.2
    have k6 := rc_v h hk
    have hpk : pHas (knv c) (nI k) := has_ofN hk (by omega)
    obtain ⟨e1, e2⟩ := em_s1 hn hpk hno i (by omega)
    have m0 := ml0 (emS s (nI k) (knv c) (knj c) i) (nI k) (knj c) hn
    obtain ⟨j, hj, ej, pj⟩ := m0.2 (fun q => by have := m0.1.mp q; omega)
    have ej2 : mLeaver (emS s (nI k) (knv c) (knj c) i) (knj c) (nI k) 0 = nI j := ej
    have hop2 : 0 < opC (emS s (nI k) (knv c) (knj c) i) := by rw [opC_s1 e1]; exact hop
    obtain ⟨e, he, ee, oe⟩ := em_pos (nj := knj c) hv (some_open hv (fun x a b => by rw [e1]; exact (h.2.2.1 x b).2 a) hop2)
    have hek : e ≠ k := fun q => by
      rw [q] at oe
      exact hno ⟨oe.1, by rw [← e1]; exact oe.2⟩
    have nvi := clF_nv c (nI k) i
    have nji := clF_nj c (nI k) i
    have hj24 : j < 24 := by omega
    have L := leaver0 C (nI k)
    rw [nji] at L
    have M := rc_empty C
    rw [nvi, nji] at M
    have st : clF c (nI k) (i + 1) = sTake (clF c (nI k) i) (nI j) (nI e) := by
      show sTake (clF c (nI k) i) (sLeaving (clF c (nI k) i) (nI k) 0) (sEmpty (clF c (nI k) i)) = _
      rw [L, M, ej2, ee]
    have sm : emS s (nI k) (knv c) (knj c) (i + 1) = mGoes (emS s (nI k) (knv c) (knj c) i) (nI j) (nI e) := by
      show mGoes _ (mLeaver (emS s (nI k) (knv c) (knj c) i) (knj c) (nI k) 0) (mEmpty (emS s (nI k) (knv c) (knj c) i) (knv c) (knj c)) = _
      rw [ej2, ee]
    rw [st, sm]
    refine ⟨?_, rS_goes hn S hj he, fun x hx => ?_⟩
    · exact rc_take C (by rw [nvi, nji]; exact S) (by rw [nji]; exact hj) pj (by rw [nvi]; exact hk) (by rw [nvi]; exact he) hek
    · have oe2 : ∀ y, pMOpen (emS s (nI k) (knv c) (knj c) i) (knv c) y → pMOpen (mGoes (emS s (nI k) (knv c) (knj c) i) (nI j) (nI e)) (knv c) y := fun y q => open_s1 (goes_s1 _ hj24 _) q
      rw [goes_2 _ hj24 (by omega)]
      by_cases d : x = j
      · rw [if_pos d]
        exact Or.inr (Or.inr (oe2 _ oe))
      · rw [if_neg d]
        exact (V x hx).imp id (fun q => q.imp id (fun q => oe2 _ q))
theorem R2_close {c : CS} {s : Nat → Int32} (h : R2 c s) {k : Nat} (hk : k < knv c) (o : pMOpen s (knv c) (nI k)) (h1 : ¬ mOpens s = 1) : R2 (sClose c (nI k)) (mEmpties s (nI k) (knv c) (knj c)) ∧ bcN (sOn (sShut c (nI k)) (nI k)) = emN (mShut s (nI k)) (nI k) (knj c) := by
  have k6 := rc_v h.1 hk
  have hn := h.1.1.2.2.2
  have hv := h.1.1.2.1
  have hb : bt (s 1) k = true := (bit_on (by omega)).mp o.2
  have C := rC_shut h.1 hk hb
  have e1 : mShut s (nI k) 1 = s 1 &&& (((1 : Int32) <<< (nI k &&& 31)) ^^^ (-1)) := rfl
  have ht : ∀ i, i ≠ 0 → i ≠ 1 → mShut s (nI k) i = s i := fun i _ g => if_neg g
  have S : rS (mShut s (nI k)) (knv c) (knj c) := rS_bits h.2.1 (Nat.le_refl _) ht
  have hno : ¬ pMOpen (mShut s (nI k)) (knv c) (nI k) := shut_no s hv (nI k)
  have hop : 0 < opC (mShut s (nI k)) := by
    have q := opC_clr k6 e1 hb
    have r : ¬ opC s = 1 := fun e => h1 (by rw [(opens_ct s).1, e]; rfl)
    omega
  have V : ∀ j, j < knj c → mOf (mShut s (nI k)) (nI j) 2 = -9 ∨ mOf (mShut s (nI k)) (nI j) 2 = nI k ∨ pMOpen (mShut s (nI k)) (knv c) (mOf (mShut s (nI k)) (nI j) 2) := fun j hj => by
    have j24 := rc_j h.1 hj
    rw [mOf_2 _ j24, ht _ (by omega) (by omega), ← mOf_2 s j24]
    rcases h.2.2.1.2 j hj with q | q
    · exact Or.inl q
    · obtain ⟨x, hx, ex⟩ := has_ex q.1 (by omega)
      rw [ex] at q ⊢
      by_cases d : x = k
      · exact Or.inr (Or.inl (by rw [d]))
      · refine Or.inr (Or.inr ⟨q.1, (bit_on (by omega)).mpr ?_⟩)
        rw [e1, bt_clr (s 1) (by omega) (by omega), (bit_on (by omega)).mp q.2, decide_eq_false d]
        rfl
  have eN : bcN (sOn (sShut c (nI k)) (nI k)) = emN (mShut s (nI k)) (nI k) (knj c) := by
    unfold sOn
    rw [on_up C (nI k) (knj (sShut c (nI k))) (Nat.le_refl _)]
    exact bc_on (nI k) hn
  have T := close_up (c := sShut c (nI k)) hk C S hno hop V (mCnt (mShut s (nI k)) (nI k) (knj c)) (Nat.le_refl _)
  have W := em_s1 hn (show pHas (knv c) (nI k) from has_ofN hk (by omega)) hno (mCnt (mShut s (nI k)) (nI k) (knj c)) (Nat.le_refl _)
  have z : fb_ct (onS (emS (mShut s (nI k)) (nI k) (knv c) (knj c) (mCnt (mShut s (nI k)) (nI k) (knj c))) (nI k)) (knj c) = 0 := by
    rw [← cnt_ct]
    omega
  have nvi := clF_nv (sShut c (nI k)) (nI k) (mCnt (mShut s (nI k)) (nI k) (knj c))
  have nji := clF_nj (sShut c (nI k)) (nI k) (mCnt (mShut s (nI k)) (nI k) (knj c))
  refine ⟨?_, eN⟩
  unfold sClose mEmpties
  rw [eN]
  refine ⟨T.1, ?_, ?_, Or.inr ?_⟩
  · rw [nvi, nji]
    exact T.2.1
  · rw [nvi, nji]
    refine ⟨?_, fun j hj => ?_⟩
    · have M := T.1.1
      rw [nvi, nji] at M
      exact M
    · rcases T.2.2 j hj with q | q | q
      · exact Or.inl q
      · have w := fb_ct_zero.mp z j hj
        exact absurd (Eq.trans (Eq.symm (onS_t.mpr q)) w) (by decide)
      · exact Or.inr q
  · rw [opC_s1 W.1]
    exact hop
theorem le1_iff {s : Nat → Int32} {k : Nat} (hk : k < 6) (hb : bt (s 1) k = true) : mOpens s ≤ 1 ↔ mOpens s = 1 := by
  have h6 := (opens_ct s).2
  have h1 : 0 < opC s := fb_ct_pos.mpr ⟨k, hk, hb⟩
  rw [(opens_ct s).1, show (1 : Int32) = nI 1 from rfl, nI_leI (by omega) (by decide), nI_eq (by omega) (by decide)]
  omega
theorem close_eq {c : CS} {s : Nat → Int32} (h : R2 c s) (p : Int32) : (fClose c p).1 = (gCloses s (knv c) (knj c) p).1 ∧ R2 (fClose c p).2 (gCloses s (knv c) (knj c) p).2 := by
  unfold fClose gCloses
  by_cases g : pHas (knv c) p
  · rw [if_pos (show pHasS c p from g), if_pos g]
    obtain ⟨k, hk, rfl⟩ := has_ex g (by have := h.1.1.2.1; omega)
    have k6 := rc_v h.1 hk
    have eo := rc_op h.1 k6
    have ep : sPrices c (nI k) = mPrF s (nI k) (knj c) := pr_up h.1 (nI k) (knj c) (Nat.le_refl _)
    rw [ep, h.1.2.2.2.2.2.2.1, h.1.2.2.2.2.1]
    by_cases o : pMOpen s (knv c) (nI k)
    · have hb : bt (s 1) k = true := (bit_on (by omega)).mp o.2
      have l1 := le1_iff k6 hb
      by_cases w : ¬ mOpens s = 1 ∧ mPrF s (nI k) (knj c) ≤ s 3
      · rw [if_pos ⟨eo.mpr o, fun q => w.1 (l1.mp q), w.2⟩, if_pos ⟨o, w⟩]
        have T := R2_close h hk o w.1
        refine ⟨?_, T.1⟩
        show nI (bcN (sOn (sShut c (nI k)) (nI k))) = _
        rw [T.2]
      · rw [if_neg (fun q => w ⟨fun r => q.2.1 (l1.mpr r), q.2.2⟩), if_neg (fun q => w q.2)]
        exact ⟨rfl, h⟩
    · rw [if_neg (fun q => o (eo.mp q.1)), if_neg (fun q => o q.1)]
      exact ⟨rfl, h⟩
  · rw [if_neg (show ¬ pHasS c p from g), if_neg g]
    exact ⟨rfl, h⟩
theorem without_eq {c : CS} {s : Nat → Int32} (h : R2 c s) (p : Int32) : sWithout c p = gWithout s (knv c) (knj c) p := by
  unfold sWithout gWithout
  by_cases g : pHas (knv c) p
  · rw [if_pos (show pHasS c p from g), if_pos g]
    obtain ⟨k, hk, rfl⟩ := has_ex g (by have := h.1.1.2.1; omega)
    have k6 := rc_v h.1 hk
    have eo := rc_op h.1 k6
    rw [h.1.2.2.2.2.1]
    by_cases o : pMOpen s (knv c) (nI k)
    · have hb : bt (s 1) k = true := (bit_on (by omega)).mp o.2
      have l1 := le1_iff k6 hb
      by_cases w : ¬ mOpens s = 1
      · rw [if_pos ⟨eo.mpr o, fun q => w (l1.mp q)⟩, if_pos ⟨o, w⟩]
        have T := R2_close h hk o w
        have G := R2_great T.1
        have nvi : knv (sClose c (nI k)) = knv c := clF_nv (sShut c (nI k)) (nI k) _
        have nji : knj (sClose c (nI k)) = knj c := clF_nj (sShut c (nI k)) (nI k) _
        rw [nvi, nji] at G
        exact G
      · rw [if_neg (fun q => w (fun r => q.2 (l1.mpr r))), if_neg (fun q => w q.2)]
    · rw [if_neg (fun q => o (eo.mp q.1)), if_neg (fun q => o q.1)]
  · rw [if_neg (show ¬ pHasS c p from g), if_neg g]
/-! opening, and the answers that only look -/
theorem open_eq {c : CS} {z : MS} (h : R2 c (kMs z)) (p : Int32) : (fOpen c p).1 = (gOpen z (knv c) p).1 ∧ ((gOpen z (knv c) p = (-2, z) ∨ gOpen z (knv c) p = (-1, z)) ∧ (fOpen c p).2 = c ∧ (fOpen c p).1 < 0 ∨ ∃ s', gOpen z (knv c) p = ((fOpen c p).1, gActed (uMs (uMbef z (kMs z)) s') (fOpen c p).1) ∧ R2 (fOpen c p).2 s') := by
  unfold fOpen gOpen
  by_cases g : pHas (knv c) p
  · rw [if_pos (show pHasS c p from g), if_pos g]
    obtain ⟨k, hk, rfl⟩ := has_ex g (by have := h.1.1.2.1; omega)
    have k6 := rc_v h.1 hk
    have eo := rc_op h.1 k6
    by_cases o : pMOpen (kMs z) (knv c) (nI k)
    · rw [if_pos (eo.mpr o), if_pos o]
      exact ⟨rfl, Or.inl ⟨Or.inl rfl, rfl, by show (-2 : Int32) < 0; decide⟩⟩
    · rw [if_neg (fun q => o (eo.mp q)), if_neg o]
      have hb : bt (kMs z 1) k = false := by
        cases q : bt (kMs z 1) k
        · rfl
        · exact absurd ⟨g, (bit_on (by omega)).mpr q⟩ o
      have T := R2_open h hk hb
      rw [T.2]
      exact ⟨rfl, Or.inr ⟨mOpenS (kMs z) (nI k), rfl, T.1⟩⟩
  · rw [if_neg (show ¬ pHasS c p from g), if_neg g]
    exact ⟨rfl, Or.inl ⟨Or.inr rfl, rfl, by show (-1 : Int32) < 0; decide⟩⟩
theorem server_eq {c : CS} {s : Nat → Int32} (h : R2 c s) (p w : Int32) : sServer c p w = rMServer s (knv c) (knj c) p w := by
  unfold sServer rMServer
  by_cases g : pHas (knv c) p
  · rw [if_pos (show pHasS c p from g)]
    obtain ⟨k, hk, rfl⟩ := has_ex g (by have := h.1.1.2.1; omega)
    have k6 := rc_v h.1 hk
    have hn := h.1.1.2.2.2
    have eo := rc_op h.1 k6
    have e2 : nI (bcN (sOn c (nI k))) = mCnF s (nI k) (knj c) := by
      unfold sOn
      rw [on_up h.1 (nI k) (knj c) (Nat.le_refl _), bc_on (nI k) hn, mCnF_nI]
    have e4 : sOn c (nI k) = mOnF s (nI k) (knj c) := on_up h.1 (nI k) (knj c) (Nat.le_refl _)
    have al := al_nI h.2.1 hn (knj c) (Nat.le_refl _)
    have all := al_le h.2.1 (knj c) (Nat.le_refl _)
    have e3 : (if ksm c ≤ 0 then (0 : Int32) else aT 6 (kld c) (nI k) * 1000 / ksm c) = (if mAll s (knj c) = 0 then 0 else 1000 * mLoad s (knj c) (nI k) / mAll s (knj c)) := by
      rw [h.1.2.2.2.2.2.1, rc_ld h.1 k6, Int32.mul_comm]
      refine ite_iff ?_ _ _
      rw [show mAll s (knj c) = nI (alN s (knj c)) from al, show (0 : Int32) = nI 0 from rfl, nI_leI (by omega) (by decide), nI_eq (by omega) (by decide)]
      omega
    by_cases i : pIn w 0 4
    · rw [if_pos (show pHas (knv c) (nI k) ∧ pIn w 0 4 from ⟨g, i⟩)]
      obtain ⟨m, _, hm, rfl⟩ := rng_of (lo := 0) (hi := 4) (by decide) i (by decide)
      rw [e2, e4, e3, rc_ld h.1 k6]
      rcases (show m = 0 ∨ m = 1 ∨ m = 2 ∨ m = 3 ∨ m = 4 by omega) with rfl | rfl | rfl | rfl | rfl
      · show (if pOpen c (nI k) then (1 : Int32) else 0) = if pMOpen s (knv c) (nI k) then 1 else 0
        exact ite_iff eo _ _
      · rfl
      · rfl
      · rfl
      · rfl
    · rw [if_neg (show ¬ (pHas (knv c) (nI k) ∧ pIn w 0 4) from fun q => i q.2)]
      have n : ∀ m : Nat, m ≤ 4 → ¬ w = nI m := fun m hm q => i (by
        rw [q]
        exact ⟨nI_pos (by omega), nI_nlt hm (by decide)⟩)
      rw [if_neg (show ¬ w = 0 from n 0 (by decide)), if_neg (show ¬ w = 1 from n 1 (by decide)), if_neg (show ¬ w = 2 from n 2 (by decide)), if_neg (show ¬ w = 3 from n 3 (by decide)), if_neg (show ¬ w = 4 from n 4 (by decide))]
  · rw [if_neg (show ¬ pHasS c p from g), if_neg (show ¬ (pHas (knv c) p ∧ pIn w 0 4) from fun q => g q.1)]
theorem job_eq {c : CS} {s : Nat → Int32} (h : R2 c s) (p w : Int32) : sJob c p w = rMJob s (knj c) p w := by
  unfold sJob rMJob
  by_cases g : pHas (knj c) p
  · rw [if_pos (show pHasJ c p from g)]
    obtain ⟨j, hj, rfl⟩ := has_ex g h.1.1.2.2.2
    by_cases i : pIn w 0 3
    · rw [if_pos (show pHas (knj c) (nI j) ∧ pIn w 0 3 from ⟨g, i⟩)]
      obtain ⟨m, _, hm, rfl⟩ := rng_of (lo := 0) (hi := 3) (by decide) i (by decide)
      rw [rc_sz h.1 hj, rc_pr h.1 hj, rc_pl h.1 hj, rc_mv h.1 hj]
      rcases (show m = 0 ∨ m = 1 ∨ m = 2 ∨ m = 3 by omega) with rfl | rfl | rfl | rfl <;> rfl
    · rw [if_neg (show ¬ (pHas (knj c) (nI j) ∧ pIn w 0 3) from fun q => i q.2)]
      have n : ∀ m : Nat, m ≤ 3 → ¬ w = nI m := fun m hm q => i (by
        rw [q]
        exact ⟨nI_pos (by omega), nI_nlt hm (by decide)⟩)
      rw [if_neg (show ¬ w = 0 from n 0 (by decide)), if_neg (show ¬ w = 1 from n 1 (by decide)), if_neg (show ¬ w = 2 from n 2 (by decide)), if_neg (show ¬ w = 3 from n 3 (by decide))]
  · rw [if_neg (show ¬ pHasJ c p from g), if_neg (show ¬ (pHas (knj c) p ∧ pIn w 0 3) from fun q => g q.1)]
theorem step_eq {c : CS} {z : MS} (h : R2 c (kMs z)) (x : SS) (w : Int32) : sStep c x w = rMStep z (knv c) (knj c) w := by
  unfold sStep rMStep
  have C := choose_eq h x
  by_cases i : pIn w 0 3
  · rw [if_pos (show ¬ w < 0 ∧ w ≤ 3 from ⟨i.1, Int32.not_lt.mp i.2⟩), if_pos i]
    by_cases q : pFind z (knv c) (knj c)
    · obtain ⟨e1, e2, e3, e4⟩ := C.2 q
      rw [if_pos (C.1.mpr q), if_pos q, e1, e2, e3, e4]
    · rw [if_neg (fun r => q (C.1.mp r)), if_neg q]
  · rw [if_neg (show ¬ (¬ w < 0 ∧ w ≤ 3) from fun q => i ⟨q.1, Int32.not_lt.mpr q.2⟩), if_neg i]
theorem plan_ab {c : CS} {z : MS} (h : R2 c (kMs z)) (w : Int32) (Y : Int32 × (CS × SS)) (Z : Nat × MS) (e1 : Y.1 = nI Z.1) (T : R2 Y.2.1 (kMs Z.2)) (nv : knv Y.2.1 = knv c) (nj : knj Y.2.1 = knj c) (eB : kMbef Z.2 = kMs z) : (if ¬ w < 0 ∧ w ≤ 4 then (if w = 0 then Y.1 else if w = 1 then kmo Y.2.1 - kmo c else if w = 2 then kbu c - kbu Y.2.1 else if w = 3 then sGreatest Y.2.1 else (if pEven Y.2.1 then 1 else 0)) else (-1 : Int32)) = (if pIn w 0 4 then (if w = 0 then nI Z.1 else if w = 1 then kMs Z.2 5 - kMbef Z.2 5 else if w = 2 then kMbef Z.2 3 - kMs Z.2 3 else if w = 3 then mGreat (kMs Z.2) (knv c) (knj c) else (if pMEven (kMs Z.2) (knv c) (knj c) then 1 else 0)) else -1) := by
  by_cases i : pIn w 0 4
  · rw [if_pos (show ¬ w < 0 ∧ w ≤ 4 from ⟨i.1, Int32.not_lt.mp i.2⟩), if_pos i]
    have G := R2_great T
    have E := rc_even T.1 T.2.1 T.2.2.1
    rw [nv, nj] at G E
    have e5 : (if pEven Y.2.1 then (1 : Int32) else 0) = (if pMEven (kMs Z.2) (knv c) (knj c) then 1 else 0) := ite_iff E _ _
    rw [e1, eB, e5, G, T.1.2.2.2.2.2.2.2.2, T.1.2.2.2.2.2.2.1, h.1.2.2.2.2.2.2.2.2, h.1.2.2.2.2.2.2.1]
  · rw [if_neg (show ¬ (¬ w < 0 ∧ w ≤ 4) from fun q => i ⟨q.1, Int32.not_lt.mpr q.2⟩), if_neg i]
theorem ev30 (z : MS) (nv nj : Nat) : gEvB z nv nj 30 = (nI (evF nv nj 30 z).1, (evF nv nj 30 z).2) := by
  have n30 : (30 : Int32).toNatClampNeg = 30 := by decide
  unfold gEvB
  rw [if_pos (by decide), n30]
theorem plan_eq {c : CS} {z : MS} (h : R2 c (kMs z)) (x : SS) (w : Int32) : sPlan c x w = rMPlan z (knv c) (knj c) w := by
  have W := walk_eq (z := uMbef z (kMs z)) h x 30
  have B : kMbef (evF (knv c) (knj c) 30 (uMbef z (kMs z))).2 = kMs z := (evF_rest (knv c) (knj c) 30 (uMbef z (kMs z))).2.1
  have nvj := fWalk_nv c x 30
  rw [ev30] at W
  unfold sPlan rMPlan zPl
  generalize fWalk c x 30 = Y at W nvj ⊢
  generalize evF (knv c) (knj c) 30 (uMbef z (kMs z)) = Z at W B ⊢
  exact plan_ab h w Y Z W.1 W.2 nvj.1 nvj.2 B
