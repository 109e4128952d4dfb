/-! ===== the plan ===== -/
theorem mx_nI {a b : Nat} (ha : a < 2 ^ 31) (hb : b < 2 ^ 31) : mx (nI a) (nI b) = nI (max a b) := by
  show (if nI a < nI b then nI b else nI a) = _
  by_cases q : a < b
  · rw [if_pos ((nI_ltI ha hb).mpr q), Nat.max_eq_right (by omega)]
  · rw [if_neg (fun r => q ((nI_ltI ha hb).mp r)), Nat.max_eq_left (by omega)]
theorem i_as {a b d : Nat} (h : b ≤ a) : nI a + (nI d - nI b) = nI (a - b + d) := by
  have e : nI a = nI (a - b) + nI b := by rw [nI_add, Nat.sub_add_cancel h]
  rw [e, Int32.add_assoc, Int32.add_comm (nI b), Int32.sub_add_cancel, nI_add]
theorem i_ss {a b d : Nat} (h : b ≤ a) : nI a - (nI b - nI d) = nI (a - b + d) := by
  rw [Int32.sub_eq_add_neg, Int32.neg_sub, i_as h]
def okM (c : CS) (f : Nat) (x : SS) : Prop := ∃ j k, j < knj c ∧ k < knv c ∧ kSjob x = nI j ∧ kSgoal x = nI k ∧ kSother x = -9 ∧ kSprice x = nI (qN c j) ∧ pN c j = f ∧ k ≠ f ∧ kop c k = 1 ∧ loadN c k + zN c j < loadN c f
def okX (c : CS) (f : Nat) (x : SS) : Prop := ∃ j o, j < knj c ∧ o < knj c ∧ kSjob x = nI j ∧ kSgoal x = nI (pN c o) ∧ kSother x = nI o ∧ kSprice x = nI (qN c j + qN c o) ∧ pN c j = f ∧ pN c o ≠ 9 ∧ pN c o ≠ f ∧ zN c o < zN c j ∧ loadN c (pN c o) + zN c j < loadN c f + zN c o
def tiS (P : SS → Prop) (L : Nat) (x : SS) : Prop := ∃ g : Nat, kSgreater x = nI g ∧ g ≤ L ∧ (kSjob x = -9 ∨ (g < L ∧ P x))
theorem ti_start (P : SS → Prop) (L : Nat) (x : SS) : tiS P L (sStart x (nI L)) := ⟨L, rfl, Nat.le_refl _, Or.inl rfl⟩
theorem ti_offer {P : SS → Prop} {L : Nat} {x : SS} (h : tiS P L x) (hL : L < 2 ^ 31) {b : Nat} (hb : b < 2 ^ 31) (mine to its cost : Int32) (hP : b < L → P (mine, to, its, cost, nI b)) : tiS P L (sOffer x mine to its cost (nI b)) := by
  unfold sOffer
  split
  · rename_i q
    obtain ⟨g, e, le, w⟩ := h
    have lt : b < L := by
      rcases q with q | ⟨q1, q2, q3⟩
      · rw [e, nI_ltI hb (by omega)] at q
        omega
      · rw [e, nI_eq hb (by omega)] at q2
        have := (w.resolve_left q1).1
        omega
    exact ⟨b, rfl, Nat.le_of_lt lt, Or.inr ⟨lt, hP lt⟩⟩
  · exact h
section PL
variable {c : CS}
theorem load_z (_ : CI c) {j x : Nat} (hj : j < knj c) (hp : pN c j = x) : zN c j ≤ loadN c x := by
  have := su_pt (f := lzN c x) (n := knj c) (j := j) hj
  unfold lzN at this
  rw [if_pos hp] at this
  exact this
theorem mvIn_ti (h : CI c) {f j : Nat} (hf : f < knv c) (hj : j < knj c) (hp : pN c j = f) {x : SS} (hx : tiS (okM c f) (loadN c f) x) : ∀ k, k ≤ knv c → tiS (okM c f) (loadN c f) (mvIn c (nI f) (nI j) x k)
  | 0, _ => hx
  | k + 1, hk => by
    have ih := mvIn_ti h hf hj hp hx k (by omega)
    have k6 := ci_v h hk
    have f6 := ci_v h hf
    have l1 := load_le h k
    have l2 := load_le h f
    have z2 := ci_z2 h hj
    have zl := load_z h hj hp
    unfold mvIn
    split
    · rename_i q
      have ne : k ≠ f := fun e => q.1 (by rw [e])
      have o : kop c k = 1 := (copI k6).mp q.2
      rw [cz h hj, cq h hj, cld h k6, cld h f6, pk_sub zl, nI_add, mx_nI (by omega) (by omega)]
      exact ti_offer ih (by omega) (by omega) _ _ _ _ (fun lt => ⟨j, k, hj, hk, rfl, rfl, rfl, rfl, hp, ne, o, by omega⟩)
    · exact ih
theorem mvOut_ti (h : CI c) {f : Nat} (hf : f < knv c) (x : SS) : ∀ j, j ≤ knj c → tiS (okM c f) (loadN c f) (mvOut c (nI f) x j)
  | 0, _ => by
    unfold mvOut
    rw [cld h (ci_v h hf)]
    exact ti_start _ _ _
  | j + 1, hj => by
    have ih := mvOut_ti h hf x j (by omega)
    unfold mvOut
    split
    · rename_i q
      exact mvIn_ti h hf hj ((cpk h hj (ci_v h hf)).mp q) ih _ (Nat.le_refl _)
    · exact ih
theorem exIn_ti (h : CI c) {f j : Nat} (hf : f < knv c) (hj : j < knj c) (hp : pN c j = f) {x : SS} (hx : tiS (okX c f) (loadN c f) x) : ∀ o, o ≤ knj c → tiS (okX c f) (loadN c f) (exIn c (nI f) (nI j) x o)
  | 0, _ => hx
  | o + 1, ho => by
    have ih := exIn_ti h hf hj hp hx o (by omega)
    have f6 := ci_v h hf
    have l2 := load_le h f
    have z2 := ci_z2 h hj
    have z3 := ci_z2 h (show o < knj c from ho)
    have zl := load_z h hj hp
    unfold exIn
    split
    · rename_i q
      have n9 : ¬ pN c o = 9 := fun e => q.2 ((cp9 h ho).mpr e)
      have ne : ¬ pN c o = f := fun e => q.1 ((cpk h ho f6).mpr e)
      have t6 := (ci_p6 h ho n9).2
      have l1 := load_le h (pN c o)
      have zo := load_z h ho rfl
      rw [cz h hj, cz h ho, cq h hj, cq h ho, cpl h ho n9, cld h t6, cld h f6, i_ss zl, i_as zo, nI_add, mx_nI (by omega) (by omega)]
      exact ti_offer ih (by omega) (by omega) _ _ _ _ (fun lt => ⟨j, o, hj, ho, rfl, rfl, rfl, rfl, hp, n9, ne, by omega, by omega⟩)
    · exact ih
theorem exOut_ti (h : CI c) {f : Nat} (hf : f < knv c) (x : SS) : ∀ j, j ≤ knj c → tiS (okX c f) (loadN c f) (exOut c (nI f) x j)
  | 0, _ => by
    unfold exOut
    rw [cld h (ci_v h hf)]
    exact ti_start _ _ _
  | j + 1, hj => by
    have ih := exOut_ti h hf x j (by omega)
    unfold exOut
    split
    · rename_i q
      exact exIn_ti h hf hj ((cpk h hj (ci_v h hf)).mp q) ih _ (Nat.le_refl _)
    · exact ih
/-! what the step was before doesn't matter -/
def eqS (x y : SS) : Prop := (kSjob x = -9 ∧ kSjob y = -9 ∧ kSgreater x = kSgreater y) ∨ x = y
theorem eq_start (x y : SS) (L : Int32) : eqS (sStart x L) (sStart y L) := Or.inl ⟨rfl, rfl, rfl⟩
theorem eq_offer {x y : SS} (h : eqS x y) (a b d e f : Int32) : eqS (sOffer x a b d e f) (sOffer y a b d e f) := by
  rcases h with ⟨h1, h2, h3⟩ | h
  · unfold sOffer
    by_cases q : f < kSgreater x
    · rw [if_pos (Or.inl q), if_pos (Or.inl (by rw [← h3]; exact q))]
      exact Or.inr rfl
    · rw [if_neg (fun w => w.elim q (fun w => w.1 h1)), if_neg (fun w => w.elim (by rw [← h3]; exact q) (fun w => w.1 h2))]
      exact Or.inl ⟨h1, h2, h3⟩
  · rw [h]
    exact Or.inr rfl
theorem eq_mvIn (c : CS) (f m : Int32) {x y : SS} (h : eqS x y) : ∀ k, eqS (mvIn c f m x k) (mvIn c f m y k)
  | 0 => h
  | k + 1 => by
    have ih := eq_mvIn c f m h k
    unfold mvIn
    split
    · exact eq_offer ih _ _ _ _ _
    · exact ih
theorem eq_mvOut (c : CS) (f : Int32) (x y : SS) : ∀ j, eqS (mvOut c f x j) (mvOut c f y j)
  | 0 => eq_start _ _ _
  | j + 1 => by
    have ih := eq_mvOut c f x y j
    unfold mvOut
    split
    · exact eq_mvIn c f _ ih _
    · exact ih
theorem eq_exIn (c : CS) (f m : Int32) {x y : SS} (h : eqS x y) : ∀ k, eqS (exIn c f m x k) (exIn c f m y k)
  | 0 => h
  | k + 1 => by
    have ih := eq_exIn c f m h k
    unfold exIn
    split
    · exact eq_offer ih _ _ _ _ _
    · exact ih
theorem eq_exOut (c : CS) (f : Int32) (x y : SS) : ∀ j, eqS (exOut c f x j) (exOut c f y j)
  | 0 => eq_start _ _ _
  | j + 1 => by
    have ih := eq_exOut c f x y j
    unfold exOut
    split
    · exact eq_exIn c f _ ih _
    · exact ih
theorem eq_poss {x y : SS} (h : eqS x y) (c : CS) : (pPoss x c ↔ pPoss y c) ∧ (pPoss x c → x = y) := by
  rcases h with ⟨h1, h2, h3⟩ | h
  · exact ⟨⟨fun q => absurd h1 q.1, fun q => absurd h2 q.1⟩, fun q => absurd h1 q.1⟩
  · subst h
    exact ⟨Iff.rfl, fun _ => rfl⟩
theorem ch_ind (c : CS) (t : Int32) (x y : SS) : (pChoose c t x ↔ pChoose c t y) ∧ (pChoose c t x → sChoose c t x = sChoose c t y) := by
  have m : (pPoss (sChM c (sFull c) x) c ↔ pPoss (sChM c (sFull c) y) c) ∧ (pPoss (sChM c (sFull c) x) c → sChM c (sFull c) x = sChM c (sFull c) y) := eq_poss (eq_mvOut c (sFull c) x y (knj c)) c
  have e : (pPoss (sChE c (sFull c) (sChM c (sFull c) x)) c ↔ pPoss (sChE c (sFull c) (sChM c (sFull c) y)) c) ∧ (pPoss (sChE c (sFull c) (sChM c (sFull c) x)) c → sChE c (sFull c) (sChM c (sFull c) x) = sChE c (sFull c) (sChM c (sFull c) y)) := eq_poss (eq_exOut c (sFull c) (sChM c (sFull c) x) (sChM c (sFull c) y) (knj c)) c
  constructor
  · exact and_congr Iff.rfl (or_congr m.1 e.1)
  · intro q
    unfold sChoose
    rw [if_pos q.1, if_pos q.1]
    by_cases g : pPoss (sChM c (sFull c) x) c
    · rw [if_pos g, if_pos (m.1.mp g)]
      exact m.2 g
    · rw [if_neg g, if_neg (fun w => g (m.1.mpr w))]
      exact e.2 (q.2.resolve_left g)
/-! the chosen step -/
def stepOk (c : CS) (f : Nat) (y : SS) : Prop := (okM c f y ∨ okX c f y) ∧ ¬ kbu c < kSprice y
theorem ch_ok (h : CI c) {t : Int32} (h0 : 0 ≤ t) {x : SS} (hp : pChoose c t x) : ∃ f, f < knv c ∧ f < 6 ∧ sFull c = nI f ∧ kop c f = 1 ∧ loadN c f = gtN c ∧ (∀ k, k < knv c → loadN c k ≤ loadN c f) ∧ stepOk c f (sChoose c t x) := by
  have hv : 0 < knv c := by
    refine Nat.pos_of_ne_zero (fun e => ?_)
    have q := hp.1
    have e : sFull c = -9 := by
      unfold sFull
      rw [e]
      rfl
    rw [e] at q
    have z : aT 6 (kld c) (-9) = 0 := by rfl
    rw [z] at q
    exact Int32.lt_irrefl (Int32.lt_of_lt_of_le q h0)
  obtain ⟨f, f0, f6, e, o, g, m⟩ := full_ok h hv
  refine ⟨f, f0, f6, e, o, g, m, ?_⟩
  have hp2 := hp.2
  unfold sChoose
  rw [if_pos hp.1]
  rw [e] at hp2 ⊢
  have tm := mvOut_ti h f0 x (knj c) (Nat.le_refl _)
  have te := exOut_ti h f0 (sChM c (nI f) x) (knj c) (Nat.le_refl _)
  split
  · rename_i q
    obtain ⟨_, _, _, w⟩ := tm
    exact ⟨Or.inl (w.resolve_left q.1).2, q.2⟩
  · rename_i q
    have q2 := hp2.resolve_left q
    obtain ⟨_, _, _, w⟩ := te
    exact ⟨Or.inr (w.resolve_left q2.1).2, q2.2⟩
/-- what a step of the plan does -/
def apDone (c d : CS) (f : Nat) (y : SS) : Prop := CI d ∧ BI d ∧ knv d = knv c ∧ knj d = knj c ∧ tgN d = tgN c ∧ gtN d ≤ gtN c ∧ (∃ m : Nat, 1 ≤ m ∧ m ≤ 2 ∧ kmo d = kmo c + nI m) ∧ kbu d = kbu c - kSprice y ∧ loadN d f < loadN c f ∧ ∃ j g, j < knj c ∧ kSjob y = nI j ∧ g < knv c ∧ kSgoal y = nI g ∧ pN c j = f ∧ g ≠ f ∧ kop c g = 1 ∧ loadN d g < loadN c f ∧ pN d j = g ∧ (kSother y = -9 ∨ ∃ o, o < knj c ∧ kSother y = nI o ∧ o ≠ j ∧ pN c o = g ∧ pN d o = f)
theorem gt_of {d : CS} {B : Nat} (hk : ∀ k, k < knv d → loadN d k ≤ B) : gtN d ≤ B := mxN_le hk
theorem ap_ok (h : CI c) (b : BI c) {f : Nat} (f0 : f < knv c) (hg : loadN c f = gtN c) (o : kop c f = 1) {y : SS} (hs : stepOk c f y) : apDone c (sApply c y) f y := by
  have hn := ci_nj h
  have f6 := ci_v h f0
  obtain ⟨hs, hb⟩ := hs
  rcases hs with ⟨j, k, hj, hk, e1, e2, e3, e4, hp, ne, ok, hl⟩ | ⟨j, i, hj, hi, e1, e2, e3, e4, hp, n9, ne, hz, hl⟩
  · have q1 := ci_q h hj
    have z1 := ci_z1 h hj
    have hq : qN c j ≤ buN c := by
      rw [e4, b.1, nI_ltI (by have := b.2; omega) (by omega)] at hb
      omega
    have j24 := ci_j h hj
    have k6 := ci_v h hk
    have n9 : ¬ pN c j = 9 := by omega
    have e : sApply c y = sTake c (nI j) (nI k) := by
      unfold sApply
      rw [if_pos e3, e1, e2]
    rw [e]
    have L := fun x => tk_load hn hj (k := k) (by omega) x
    have Lf := L f
    have Lk := L k
    rw [if_pos hp, if_neg ne] at Lf
    rw [if_neg (fun q => ne (by omega)), if_pos rfl] at Lk
    have C := tk_CX h hj n9 hk ok (by omega)
    have B := tk_BI h b hj hq (nI k)
    refine ⟨C, B.1, rfl, rfl, tk_tg j24 (by omega) n9, gt_of (fun x hx => ?_), ⟨1, by omega, by omega, rfl⟩, ?_, by omega, j, k, hj, e1, hk, e2, hp, ne, ok, by omega, by rw [tk_p j24 (by omega), if_pos rfl], Or.inl e3⟩
    · have hx : x < knv c := hx
      have gx : loadN c x ≤ gtN c := mxN_ge hx
      have Lx := L x
      by_cases x1 : x = k
      · subst x1
        omega
      · by_cases x2 : x = f
        · subst x2
          omega
        · rw [if_neg (fun q => x2 (by omega)), if_neg (fun q => x1 q.symm)] at Lx
          omega
    · rw [tk_bu h hj, e4]
  · have q1 := ci_q h hj
    have q2 := ci_q h hi
    have z1 := ci_z1 h hj
    have hq : qN c j + qN c i ≤ buN c := by
      rw [e4, b.1, nI_ltI (by have := b.2; omega) (by omega)] at hb
      omega
    have j24 := ci_j h hj
    have i24 := ci_j h hi
    have n9j : ¬ pN c j = 9 := by omega
    obtain ⟨gg, hgg⟩ : ∃ g, g = pN c i := ⟨_, rfl⟩
    rw [← hgg] at e2 n9 ne hl
    have g6 := ci_p6 h hi (by omega)
    have og := ci_op h hi (by omega)
    rw [← hgg] at g6 og
    have ij : i ≠ j := fun q => by rw [q] at hgg; omega
    have e : sApply c y = sTake (sTake c (nI j) (nI gg)) (nI i) (nI f) := by
      unfold sApply
      rw [if_neg (by rw [e3]; exact ne9 (by omega)), e1, e2, e3, cpl h hj n9j, hp]
    rw [e]
    have C1 := tk_CX h hj n9j g6.1 og (by omega)
    have B1 := tk_BI h b hj (by omega) (nI gg)
    have p1 := fun x => tk_p (c := c) j24 (k := gg) (by omega) x
    have pi1 : pN (sTake c (nI j) (nI gg)) i = gg := by rw [p1, if_neg ij, hgg]
    have hi1 : i < knj (sTake c (nI j) (nI gg)) := hi
    have C2 := tk_CX C1 hi1 (by omega) (k := f) f0 o (by omega)
    have B2 := tk_BI C1 B1.1 hi1 (by have : qN (sTake c (nI j) (nI gg)) i = qN c i := rfl; omega) (nI f)
    have p2 := fun x => tk_p (c := sTake c (nI j) (nI gg)) i24 (k := f) (by omega) x
    have L1 := fun x => tk_load hn hj (k := gg) (by omega) x
    have L2 := fun x => tk_load (c := sTake c (nI j) (nI gg)) hn hi1 (k := f) (by omega) x
    have zi : zN (sTake c (nI j) (nI gg)) i = zN c i := rfl
    rw [pi1, zi] at L2
    have L1f := L1 f
    have L1g := L1 gg
    have L2f := L2 f
    have L2g := L2 gg
    rw [if_pos hp, if_neg ne] at L1f
    rw [if_neg (fun q => ne (by omega)), if_pos rfl] at L1g
    rw [if_neg ne, if_pos rfl] at L2f
    rw [if_pos rfl, if_neg (fun q => ne (by omega))] at L2g
    refine ⟨C2, B2.1, rfl, rfl, ?_, gt_of (fun x hx => ?_), ⟨2, by omega, by omega, ?_⟩, ?_, by omega, j, gg, hj, e1, g6.1, e2, hp, ne, og, by omega, ?_, Or.inr ⟨i, hi, e3, ij, hgg.symm, by rw [p2, if_pos rfl]⟩⟩
    · rw [tk_tg i24 (by omega) (by omega), tk_tg j24 (by omega) n9j]
    · have hx : x < knv c := hx
      have gx : loadN c x ≤ gtN c := mxN_ge hx
      have L1x := L1 x
      have L2x := L2 x
      by_cases x1 : x = gg
      · subst x1
        omega
      · by_cases x2 : x = f
        · subst x2
          omega
        · rw [if_neg (fun q => x2 (by omega)), if_neg (fun q => x1 q.symm)] at L1x
          rw [if_neg (fun q => x1 q.symm), if_neg (fun q => x2 q.symm)] at L2x
          omega
    · show kmo c + 1 + 1 = _
      rw [Int32.add_assoc]
      rfl
    · rw [tk_bu C1 hi1, tk_bu h hj, e4, ← nI_add]
      show kbu c - nI (qN c j) - nI (qN c i) = _
      rw [Int32.sub_sub]
    · rw [p2, if_neg (Ne.symm ij), p1, if_pos rfl]
/-! the walk -/
theorem wk_ok : ∀ (n : Nat) (c : CS) (x : SS), CI c → BI c → ∀ t : Int32, t = sTarget c → CI (wkF t n (c, x)).2.1 ∧ BI (wkF t n (c, x)).2.1 ∧ knv (wkF t n (c, x)).2.1 = knv c ∧ knj (wkF t n (c, x)).2.1 = knj c ∧ tgN (wkF t n (c, x)).2.1 = tgN c ∧ gtN (wkF t n (c, x)).2.1 ≤ gtN c ∧ (wkF t n (c, x)).1 ≤ n ∧ (∃ m : Nat, (wkF t n (c, x)).1 ≤ m ∧ m ≤ 2 * (wkF t n (c, x)).1 ∧ kmo (wkF t n (c, x)).2.1 = kmo c + nI m) ∧ ((wkF t n (c, x)).1 < n → ∀ y, ¬ pChoose (wkF t n (c, x)).2.1 t y)
  | 0, c, x, h, b, t, ht => ⟨h, b, rfl, rfl, rfl, Nat.le_refl _, Nat.le_refl _, ⟨0, Nat.le_refl _, Nat.le_refl _, (Int32.add_zero _).symm⟩, fun q => absurd q (Nat.lt_irrefl 0)⟩
  | n + 1, c, x, h, b, t, ht => by
    unfold wkF
    split
    · rename_i q
      have q : pChoose c t x := q
      obtain ⟨f, f0, f6, e, o, g, m, so⟩ := ch_ok h (by rw [ht, target_eq h]; exact nI_pos' (by have := tg_le h; omega)) q
      have A := ap_ok h b f0 g o so
      obtain ⟨A1, A2, A3, A4, A5, A6, ⟨m1, A7, A8, A9⟩, A10, -⟩ := A
      have ih := wk_ok n (sApply c (sChoose c t x)) (sChoose c t x) A1 A2 t (ht.trans ((target_eq h).trans ((congrArg nI A5.symm).trans (target_eq A1).symm)))
      obtain ⟨i1, i2, i3, i4, i5, i6, i7, ⟨m2, i8, i9, i10⟩, i11⟩ := ih
      refine ⟨i1, i2, i3.trans A3, i4.trans A4, i5.trans A5, Nat.le_trans i6 A6, Nat.succ_le_succ i7, ⟨m1 + m2, ?_, ?_, ?_⟩, fun q => i11 (Nat.lt_of_succ_lt_succ q)⟩
      · show (wkF t n (stp t (c, x))).1 + 1 ≤ _
        have i8 : (wkF t n (stp t (c, x))).1 ≤ m2 := i8
        omega
      · show _ ≤ 2 * ((wkF t n (stp t (c, x))).1 + 1)
        have i9 : m2 ≤ 2 * (wkF t n (stp t (c, x))).1 := i9
        omega
      · show kmo (wkF t n (sApply c (sChoose c t x), sChoose c t x)).2.1 = _
        rw [i10, A9, Int32.add_assoc, nI_add]
    · rename_i q
      have q : ¬ pChoose c t x := q
      exact ⟨h, b, rfl, rfl, rfl, Nat.le_refl _, Nat.zero_le _, ⟨0, Nat.le_refl _, Nat.le_refl _, (Int32.add_zero _).symm⟩, fun _ y w => q ((ch_ind c t x y).1.mpr w)⟩
theorem wk_ind : ∀ (n : Nat) (c : CS) (x y : SS) (t : Int32), (wkF t n (c, x)).1 = (wkF t n (c, y)).1 ∧ (wkF t n (c, x)).2.1 = (wkF t n (c, y)).2.1
  | 0, _, _, _, _ => ⟨rfl, rfl⟩
  | n + 1, c, x, y, t => by
    have k := ch_ind c t x y
    unfold wkF
    by_cases q : pChoose c t x
    · rw [if_pos (show pChoose (c, x).1 t (c, x).2 from q), if_pos (show pChoose (c, y).1 t (c, y).2 from k.1.mp q)]
      have e : stp t (c, x) = stp t (c, y) := by
        show (sApply c (sChoose c t x), sChoose c t x) = (sApply c (sChoose c t y), sChoose c t y)
        rw [k.2 q]
      rw [e]
      exact ⟨rfl, rfl⟩
    · rw [if_neg (show ¬ pChoose (c, x).1 t (c, x).2 from q), if_neg (show ¬ pChoose (c, y).1 t (c, y).2 from fun w => q (k.1.mpr w))]
      exact ⟨rfl, rfl⟩
theorem wk_min (t : Int32) : ∀ (n m : Nat) (z : CS × SS), (wkF t n z).1 = min n (wkF t (n + m) z).1
  | 0, m, z => by
    show 0 = _
    omega
  | n + 1, m, z => by
    have ih := wk_min t n m (stp t z)
    rw [Nat.add_right_comm]
    unfold wkF
    split
    · show (wkF t n (stp t z)).1 + 1 = min (n + 1) ((wkF t (n + m) (stp t z)).1 + 1)
      omega
    · show 0 = _
      omega
theorem wk_more (t : Int32) : ∀ (n : Nat) (z : CS × SS), (wkF t n z).1 < n → wkF t (n + 1) z = wkF t n z
  | 0, z, h => absurd h (Nat.not_lt_zero _)
  | n + 1, z, h => by
    have ih := wk_more t n (stp t z)
    unfold wkF at h ⊢
    split
    · rename_i q
      rw [if_pos q] at h
      have h : (wkF t n (stp t z)).1 + 1 < n + 1 := h
      rw [ih (by omega)]
    · rfl
end PL
