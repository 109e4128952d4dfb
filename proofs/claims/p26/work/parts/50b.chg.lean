/-! ===== the changes keep the picture ===== -/
theorem sh_at (f : Nat → Int32) {a k : Nat} (ha : a < 6) (hk : k < 6) (hne : k ≠ a) (z : Int32) (i : Nat) : pT 6 (pT 6 f (nI a) (aT 6 f (nI a) - z)) (nI k) (aT 6 (pT 6 f (nI a) (aT 6 f (nI a) - z)) (nI k) + z) i = if i = k then f k + z else if i = a then f a - z else f i := by
  have h6 : 6 < 2 ^ 31 := by decide
  simp only [pT_nI hk h6, aT_nI hk h6, pT_nI ha h6, aT_nI ha h6, upd, if_neg hne]
theorem up_s (f : Nat → Int32) (k : Nat) (x : Int32) : upd f k x k = x := if_pos rfl
theorem up_n (f : Nat → Int32) {k i : Nat} (x : Int32) (h : ¬ i = k) : upd f k x i = f i := if_neg h
section TK
variable {c : CS} {s : Nat}
theorem tk_pl {j : Nat} (hj : j < 24) (v : Int32) : kpl (sTake c (nI j) v) = upd (kpl c) j v := pT_nI hj (by decide) _ _
theorem tk_mv {j : Nat} (hj : j < 24) (v : Int32) : kmv (sTake c (nI j) v) = upd (kmv c) j (kmv c j + 1) := by
  show pT 24 (kmv c) (nI j) (aT 24 (kmv c) (nI j) + 1) = _
  rw [pT_nI hj (by decide), aT_nI hj (by decide)]
theorem tk_p {j : Nat} (hj : j < 24) {k : Nat} (hk : k < 2 ^ 31) (i : Nat) : pN (sTake c (nI j) (nI k)) i = if i = j then k else pN c i := by
  by_cases e : i = j
  · subst e
    rw [if_pos rfl]
    refine pN_of ?_ hk
    rw [tk_pl hj, up_s]
  · rw [if_neg e]
    unfold pN
    rw [tk_pl hj, up_n _ _ e]
theorem tk_load {j : Nat} (hn : knj c ≤ 24) (hj : j < knj c) {k : Nat} (hk : k < 2 ^ 31) (x : Nat) : loadN (sTake c (nI j) (nI k)) x + (if pN c j = x then zN c j else 0) = loadN c x + (if k = x then zN c j else 0) := by
  have w := su_chg (f := lzN (sTake c (nI j) (nI k)) x) (g := lzN c x) (j := j) (n := knj c) hj (fun i _ hi => by
    unfold lzN
    rw [tk_p (by omega) hk, if_neg hi]
    rfl)
  have e : lzN (sTake c (nI j) (nI k)) x j = if k = x then zN c j else 0 := by
    unfold lzN
    rw [tk_p (by omega) hk, if_pos rfl]
    rfl
  rw [e] at w
  exact w
theorem tk_many {j : Nat} (hn : knj c ≤ 24) (hj : j < knj c) {k : Nat} (hk : k < 2 ^ 31) (x : Nat) : manyN (sTake c (nI j) (nI k)) x + (if pN c j = x then 1 else 0) = manyN c x + (if k = x then 1 else 0) := by
  have w := su_chg (f := mnN (sTake c (nI j) (nI k)) x) (g := mnN c x) (j := j) (n := knj c) hj (fun i _ hi => by
    unfold mnN
    rw [tk_p (by omega) hk, if_neg hi])
  have e : mnN (sTake c (nI j) (nI k)) x j = if k = x then 1 else 0 := by
    unfold mnN
    rw [tk_p (by omega) hk, if_pos rfl]
  rw [e] at w
  exact w
theorem tk_az {j : Nat} (hj : j < 24) {k : Nat} (hk : k < 9) (h9 : ¬ pN c j = 9) (i : Nat) : azN (sTake c (nI j) (nI k)) i = azN c i := by
  unfold azN
  rw [tk_p hj (by omega)]
  by_cases e : i = j
  · subst e
    rw [if_pos rfl, if_neg (by omega), if_neg h9]
    rfl
  · rw [if_neg e]
    rfl
theorem tk_all {j : Nat} (hj : j < 24) {k : Nat} (hk : k < 9) (h9 : ¬ pN c j = 9) : allN (sTake c (nI j) (nI k)) = allN c := su_cong (fun i _ => tk_az hj hk h9 i)
theorem tk_bg {j : Nat} (hj : j < 24) {k : Nat} (hk : k < 9) (h9 : ¬ pN c j = 9) : bgN (sTake c (nI j) (nI k)) = bgN c := mxN_cong (fun i _ => tk_az hj hk h9 i)
theorem tk_tg {j : Nat} (hj : j < 24) {k : Nat} (hk : k < 9) (h9 : ¬ pN c j = 9) : tgN (sTake c (nI j) (nI k)) = tgN c := by
  have e : avN (sTake c (nI j) (nI k)) = avN c := by
    unfold avN
    rw [tk_all hj hk h9]
    rfl
  unfold tgN bdN
  rw [tk_bg hj hk h9, e]
  rfl
theorem tk_mvF {j : Nat} (hj : j < 24) (v : Int32) : ∀ n, n ≤ 24 → mvF (sTake c (nI j) v) n = mvF c n + (if j < n then 1 else 0)
  | 0, _ => rfl
  | n + 1, hn => by
    have ih := tk_mvF hj v n (by omega)
    unfold mvF
    rw [ih, tk_mv hj]
    by_cases e : n = j
    · subst e
      rw [up_s, if_neg (Nat.lt_irrefl n), if_pos (Nat.lt_succ_self n), Int32.add_zero, Int32.add_assoc]
    · rw [up_n _ _ e]
      by_cases g : j < n
      · rw [if_pos g, if_pos (by omega), Int32.add_assoc, Int32.add_assoc, Int32.add_comm 1]
      · rw [if_neg g, if_neg (by omega), Int32.add_zero, Int32.add_zero]
theorem tk_ld (h : CX s c) {j : Nat} (hj : j < knj c) (h9 : ¬ pN c j = 9) {k : Nat} (hk : k < knv c) (hne : k ≠ pN c j) (x : Nat) (hx : x < 6) : kld (sTake c (nI j) (nI k)) x = nI (loadN (sTake c (nI j) (nI k)) x) := by
  have hn := ci_nj h
  have k6 := ci_v h hk
  have a6 := (ci_p6 h hj h9).2
  have w := tk_load hn hj (k := k) (by omega) x
  have e0 : kld (sTake c (nI j) (nI k)) x = if x = k then kld c k + nI (zN c j) else if x = pN c j then kld c (pN c j) - nI (zN c j) else kld c x := by
    show pT 6 (pT 6 (kld c) (aT 24 (kpl c) (nI j)) (aT 6 (kld c) (aT 24 (kpl c) (nI j)) - aT 24 (ksz c) (nI j))) (nI k) (aT 6 (pT 6 (kld c) (aT 24 (kpl c) (nI j)) (aT 6 (kld c) (aT 24 (kpl c) (nI j)) - aT 24 (ksz c) (nI j))) (nI k) + aT 24 (ksz c) (nI j)) x = _
    rw [cpl h hj h9, cz h hj]
    exact sh_at (kld c) a6 k6 hne (nI (zN c j)) x
  rw [e0]
  have hl := h.2.2.2.1
  by_cases e : x = k
  · subst e
    rw [if_pos rfl, hl x hx, nI_add]
    rw [if_neg (Ne.symm hne), if_pos rfl] at w
    exact congrArg nI (by omega)
  · rw [if_neg e]
    rw [if_neg (Ne.symm e)] at w
    by_cases e2 : x = pN c j
    · have le : zN c j ≤ loadN c x := by
        have := su_pt (f := lzN c x) (n := knj c) (j := j) hj
        unfold lzN at this
        rw [if_pos e2.symm] at this
        exact this
      rw [if_pos e2, ← e2, hl x hx, pk_sub le]
      rw [if_pos e2.symm] at w
      exact congrArg nI (by omega)
    · rw [if_neg e2, hl x hx]
      rw [if_neg (Ne.symm e2)] at w
      exact congrArg nI (by omega)
theorem tk_CX (h : CX s c) {j : Nat} (hj : j < knj c) (h9 : ¬ pN c j = 9) {k : Nat} (hk : k < knv c) (ho : kop c k = 1) (hne : k ≠ pN c j) : CX s (sTake c (nI j) (nI k)) := by
  have hn := ci_nj h
  have k6 := ci_v h hk
  have j24 : j < 24 := by omega
  refine ⟨h.1, h.2.1, fun i hi => ?_, fun x hx => tk_ld h hj h9 hk hne x hx, h.2.2.2.2.1, ?_, h.2.2.2.2.2.2.1, ?_⟩
  · unfold plOk
    rw [tk_p j24 (by omega), tk_pl j24]
    by_cases e : i = j
    · subst e
      rw [if_pos rfl, up_s]
      exact Or.inr ⟨hk, rfl, Or.inl ho⟩
    · rw [if_neg e, up_n _ _ e]
      exact h.2.2.1 i hi
  · show ksm c = _
    rw [tk_all j24 (by omega) h9]
    exact h.2.2.2.2.2.1
  · show kmo c + 1 = mvF _ (knj c)
    rw [tk_mvF j24 _ _ hn, if_pos hj, h.2.2.2.2.2.2.2]
theorem tk_bu (h : CX s c) {j : Nat} (hj : j < knj c) (v : Int32) : kbu (sTake c (nI j) v) = kbu c - nI (qN c j) := by
  show kbu c - aT 24 (kpr c) (nI j) = _
  rw [cq h hj]
theorem tk_BI (h : CX s c) (b : BI c) {j : Nat} (hj : j < knj c) (hq : qN c j ≤ buN c) (v : Int32) : BI (sTake c (nI j) v) ∧ buN (sTake c (nI j) v) = buN c - qN c j := by
  have e : kbu (sTake c (nI j) v) = nI (buN c - qN c j) := by
    rw [tk_bu h hj, b.1, pk_sub hq]
  have e2 := buN_of e (by have := b.2; omega)
  exact ⟨⟨by rw [e2]; exact e, by rw [e2]; have := b.2; omega⟩, e2⟩
theorem tk_mo {j v : Int32} : kmo (sTake c j v) = kmo c + 1 := rfl
end TK
/-! the other changes -/
theorem CX_same {s : Nat} {c d : CS} (h : CX s c) (e1 : ksz d = ksz c) (e2 : kpr d = kpr c) (e3 : kpl d = kpl c) (e4 : kmv d = kmv c) (e5 : kld d = kld c) (e6 : kop d = kop c) (e7 : knv d = knv c) (e8 : knO d = knO c) (e9 : knj d = knj c) (e10 : ksm d = ksm c) (e11 : kfa d = nI (faN d) ∧ 100 ≤ faN d ∧ faN d ≤ 400) (e12 : kmo d = kmo c) : CX s d := by
  obtain ⟨sz, pr, pl, mv, ld, op, nv, nO, nj, sm, bu, fa, mo⟩ := c
  obtain ⟨sz2, pr2, pl2, mv2, ld2, op2, nv2, nO2, nj2, sm2, bu2, fa2, mo2⟩ := d
  have e1 : sz2 = sz := e1
  have e2 : pr2 = pr := e2
  have e3 : pl2 = pl := e3
  have e4 : mv2 = mv := e4
  have e5 : ld2 = ld := e5
  have e6 : op2 = op := e6
  have e7 : nv2 = nv := e7
  have e8 : nO2 = nO := e8
  have e9 : nj2 = nj := e9
  have e10 : sm2 = sm := e10
  have e12 : mo2 = mo := e12
  subst e1 e2 e3 e4 e5 e6 e7 e8 e9 e10 e12
  have mvE : ∀ n, mvF (sz2, pr2, pl2, mv2, ld2, op2, nv2, nO2, nj2, sm2, bu2, fa2, mo2) n = mvF (sz2, pr2, pl2, mv2, ld2, op2, nv2, nO2, nj2, sm2, bu, fa, mo2) n := by
    intro n
    induction n with
    | zero => rfl
    | succ n ih =>
      unfold mvF
      rw [ih]
  exact ⟨h.1, h.2.1, h.2.2.1, h.2.2.2.1, h.2.2.2.2.1, h.2.2.2.2.2.1, e11, h.2.2.2.2.2.2.2.trans (mvE _).symm⟩
theorem bu_CX {s : Nat} {c : CS} (h : CX s c) (w : Int32) : CX s (ubu c w) := CX_same h rfl rfl rfl rfl rfl rfl rfl rfl rfl rfl h.2.2.2.2.2.2.1 rfl
theorem fa_CX {s : Nat} {c : CS} (h : CX s c) {f : Nat} (h1 : 100 ≤ f) (h2 : f ≤ 400) : CX s (ufa c (nI f)) := by
  have e : faN (ufa c (nI f)) = f := faN_of rfl (by omega)
  exact CX_same h rfl rfl rfl rfl rfl rfl rfl rfl rfl rfl ⟨by rw [e], by omega, by omega⟩ rfl
/-- a server more -/
abbrev sSrv (c : CS) : CS := unO (unv (uop c (pT 6 (kop c) (nI (knv c)) 1)) (knv c + 1)) (knO c + 1)
theorem srv_op {c : CS} (hv : knv c < 6) : kop (sSrv c) = upd (kop c) (knv c) 1 := pT_nI hv (by decide) _ _
theorem srv_CI {c : CS} (h : CI c) (hv : knv c < 6) : CI (sSrv c) := by
  have mvE : ∀ n, mvF (sSrv c) n = mvF c n := by
    intro n
    induction n with
    | zero => rfl
    | succ n ih =>
      unfold mvF
      rw [ih]
  have oE : opN (sSrv c) = opN c + 1 := by
    show su (oN (sSrv c)) (knv c) + oN (sSrv c) (knv c) = _
    rw [su_cong (g := oN c) (fun k hk => by unfold oN; rw [srv_op hv, up_n _ _ (by omega)])]
    unfold oN
    rw [srv_op hv, up_s, if_pos rfl]
    rfl
  refine ⟨⟨hv, h.1.2⟩, h.2.1, fun j hj => ?_, h.2.2.2.1, ⟨?_, Or.inr (by omega)⟩, h.2.2.2.2.2.1, h.2.2.2.2.2.2.1, h.2.2.2.2.2.2.2.trans (mvE _).symm⟩
  · rcases h.2.2.1 j hj with q | q
    · exact Or.inl q
    · refine Or.inr ⟨Nat.lt_succ_of_lt q.1, q.2.1, Or.inl ?_⟩
      have o := ci_op h hj (by have := ci_v h q.1; omega)
      show kop (sSrv c) (pN c j) = 1
      rw [srv_op hv, up_n _ _ (by omega)]
      exact o
  · show knO c + 1 = _
    rw [oE, h.2.2.2.2.1.1]
    exact nI_1 _
/-- a closed one opens -/
abbrev sOpn (c : CS) (k : Nat) : CS := unO (uop c (pT 6 (kop c) (nI k) 1)) (knO c + 1)
theorem opn_op {c : CS} {k : Nat} (hk : k < 6) : kop (sOpn c k) = upd (kop c) k 1 := pT_nI hk (by decide) _ _
theorem opn_opN {c : CS} {k : Nat} (hv : knv c ≤ 6) (hk : k < knv c) (hc : ¬ kop c k = 1) : opN (sOpn c k) = opN c + 1 := by
  have w := su_chg (f := oN (sOpn c k)) (g := oN c) (j := k) (n := knv c) hk (fun i _ hi => by unfold oN; rw [opn_op (by omega), up_n _ _ hi])
  have e1 : oN (sOpn c k) k = 1 := by
    unfold oN
    rw [opn_op (by omega), up_s, if_pos rfl]
  have e2 : oN c k = 0 := if_neg hc
  rw [e1, e2] at w
  exact w
theorem opn_CI {c : CS} (h : CI c) {k : Nat} (hk : k < knv c) (hc : ¬ kop c k = 1) : CI (sOpn c k) := by
  have k6 := ci_v h hk
  have mvE : ∀ n, mvF (sOpn c k) n = mvF c n := by
    intro n
    induction n with
    | zero => rfl
    | succ n ih =>
      unfold mvF
      rw [ih]
  have oE := opn_opN (ci_nv h) hk hc
  refine ⟨h.1, h.2.1, fun j hj => ?_, h.2.2.2.1, ⟨?_, Or.inr (by omega)⟩, h.2.2.2.2.2.1, h.2.2.2.2.2.2.1, h.2.2.2.2.2.2.2.trans (mvE _).symm⟩
  · rcases h.2.2.1 j hj with q | q
    · exact Or.inl q
    · refine Or.inr ⟨q.1, q.2.1, Or.inl ?_⟩
      have o := ci_op h hj (by have := ci_v h q.1; omega)
      show kop (sOpn c k) (pN c j) = 1
      rw [opn_op k6, up_n _ _ (fun e => hc (by rw [← e]; exact o))]
      exact o
  · show knO c + 1 = _
    rw [oE, h.2.2.2.2.1.1]
    exact nI_1 _
/-- an open one shuts, its jobs still there -/
theorem sht_op {c : CS} {k : Nat} (hk : k < 6) : kop (sShut c (nI k)) = upd (kop c) k 0 := pT_nI hk (by decide) _ _
theorem sht_opN {c : CS} {k : Nat} (hv : knv c ≤ 6) (hk : k < knv c) (ho : kop c k = 1) : opN (sShut c (nI k)) + 1 = opN c := by
  have w := su_chg (f := oN (sShut c (nI k))) (g := oN c) (j := k) (n := knv c) hk (fun i _ hi => by unfold oN; rw [sht_op (by omega), up_n _ _ hi])
  have e1 : oN (sShut c (nI k)) k = 0 := by
    unfold oN
    rw [sht_op (by omega), up_s, if_neg (by decide)]
  have e2 : oN c k = 1 := if_pos ho
  rw [e1, e2] at w
  exact w
theorem sht_CX {c : CS} (h : CI c) {k : Nat} (hk : k < knv c) (ho : kop c k = 1) (h1 : 1 < opN c) : CX k (sShut c (nI k)) := by
  have k6 := ci_v h hk
  have mvE : ∀ n, mvF (sShut c (nI k)) n = mvF c n := by
    intro n
    induction n with
    | zero => rfl
    | succ n ih =>
      unfold mvF
      rw [ih]
      rfl
  have oE := sht_opN (ci_nv h) hk ho
  refine ⟨h.1, h.2.1, fun j hj => ?_, h.2.2.2.1, ⟨?_, Or.inr (by omega)⟩, h.2.2.2.2.2.1, h.2.2.2.2.2.2.1, h.2.2.2.2.2.2.2.trans (mvE _).symm⟩
  · rcases h.2.2.1 j hj with q | q
    · exact Or.inl q
    · refine Or.inr ⟨q.1, q.2.1, ?_⟩
      by_cases e : pN c j = k
      · exact Or.inr e
      · have o := ci_op h hj (by have := ci_v h q.1; omega)
        refine Or.inl ?_
        show kop (sShut c (nI k)) (pN c j) = 1
        rw [sht_op k6, up_n _ _ e]
        exact o
  · show knO c - 1 = _
    rw [h.2.2.2.2.1.1, show (1 : Int32) = nI 1 from rfl, pk_sub (by omega)]
    exact congrArg nI (by omega)
theorem CX_CI {c : CS} {k : Nat} (h : CX k c) (hm : manyN c k = 0) : CI c := by
  refine ⟨h.1, h.2.1, fun j hj => ?_, h.2.2.2⟩
  rcases h.2.2.1 j hj with q | q
  · exact Or.inl q
  · refine Or.inr ⟨q.1, q.2.1, Or.inl (q.2.2.resolve_right (fun e => ?_))⟩
    have := su_pt (f := mnN c k) (n := knj c) (j := j) hj
    unfold mnN at this
    rw [if_pos e] at this
    have hm : su (mnN c k) (knj c) = 0 := hm
    unfold mnN at hm
    omega
section NJ
variable {c : CS} {a b k : Nat}
theorem nj_sz (hn : knj c < 24) : ksz (sNewJob c (nI a) (nI b) (nI k)) = upd (ksz c) (knj c) (nI a) := pT_nI hn (by decide) _ _
theorem nj_pr (hn : knj c < 24) : kpr (sNewJob c (nI a) (nI b) (nI k)) = upd (kpr c) (knj c) (nI b) := pT_nI hn (by decide) _ _
theorem nj_pl (hn : knj c < 24) : kpl (sNewJob c (nI a) (nI b) (nI k)) = upd (kpl c) (knj c) (nI k) := pT_nI hn (by decide) _ _
theorem nj_mv (hn : knj c < 24) : kmv (sNewJob c (nI a) (nI b) (nI k)) = upd (kmv c) (knj c) 0 := pT_nI hn (by decide) _ _
theorem nj_p (hn : knj c < 24) (hk : k < 6) (i : Nat) : pN (sNewJob c (nI a) (nI b) (nI k)) i = if i = knj c then k else pN c i := by
  by_cases e : i = knj c
  · rw [if_pos e]
    refine pN_of ?_ (by omega)
    rw [nj_pl hn, e, up_s]
  · rw [if_neg e]
    unfold pN
    rw [nj_pl hn, up_n _ _ e]
theorem nj_z (hn : knj c < 24) (ha : a ≤ 1000) (i : Nat) : zN (sNewJob c (nI a) (nI b) (nI k)) i = if i = knj c then a else zN c i := by
  by_cases e : i = knj c
  · rw [if_pos e]
    refine zN_of ?_ (by omega)
    rw [nj_sz hn, e, up_s]
  · rw [if_neg e]
    unfold zN
    rw [nj_sz hn, up_n _ _ e]
theorem nj_q (hn : knj c < 24) (hb : b ≤ 100) (i : Nat) : qN (sNewJob c (nI a) (nI b) (nI k)) i = if i = knj c then b else qN c i := by
  by_cases e : i = knj c
  · rw [if_pos e]
    refine qN_of ?_ (by omega)
    rw [nj_pr hn, e, up_s]
  · rw [if_neg e]
    unfold qN
    rw [nj_pr hn, up_n _ _ e]
theorem nj_load (hn : knj c < 24) (hk : k < 6) (ha : a ≤ 1000) (x : Nat) : loadN (sNewJob c (nI a) (nI b) (nI k)) x = loadN c x + if k = x then a else 0 := by
  show su (lzN (sNewJob c (nI a) (nI b) (nI k)) x) (knj c) + lzN (sNewJob c (nI a) (nI b) (nI k)) x (knj c) = _
  rw [su_cong (g := lzN c x) (fun i hi => by unfold lzN; rw [nj_p hn hk, nj_z hn ha, if_neg (show ¬ i = knj c by omega), if_neg (show ¬ i = knj c by omega)])]
  unfold lzN
  rw [nj_p hn hk, nj_z hn ha, if_pos rfl, if_pos rfl]
  rfl
theorem nj_all (hn : knj c < 24) (hk : k < 6) (ha : a ≤ 1000) : allN (sNewJob c (nI a) (nI b) (nI k)) = allN c + a := by
  show su (azN (sNewJob c (nI a) (nI b) (nI k))) (knj c) + azN (sNewJob c (nI a) (nI b) (nI k)) (knj c) = _
  rw [su_cong (g := azN c) (fun i hi => by unfold azN; rw [nj_p hn hk, nj_z hn ha, if_neg (show ¬ i = knj c by omega), if_neg (show ¬ i = knj c by omega)])]
  unfold azN
  rw [nj_p hn hk, nj_z hn ha, if_pos rfl, if_pos rfl, if_neg (by omega)]
  rfl
theorem nj_mvF (hn : knj c < 24) : ∀ n, n ≤ knj c → mvF (sNewJob c (nI a) (nI b) (nI k)) n = mvF c n
  | 0, _ => rfl
  | n + 1, h => by
    unfold mvF
    rw [nj_mvF hn n (by omega), nj_mv hn, up_n _ _ (by omega)]
theorem nj_CI (h : CI c) (hn : knj c < 24) (ha1 : 1 ≤ a) (ha : a ≤ 1000) (hb : b ≤ 100) (hk : k < knv c) (ho : kop c k = 1) : CI (sNewJob c (nI a) (nI b) (nI k)) := by
  have k6 := ci_v h hk
  refine ⟨⟨h.1.1, hn⟩, fun j hj => ?_, fun j hj => ?_, fun x hx => ?_, h.2.2.2.2.1, ?_, h.2.2.2.2.2.2.1, ?_⟩
  · unfold jOk
    rw [nj_z hn ha, nj_q hn hb, nj_sz hn, nj_pr hn]
    by_cases e : j = knj c
    · rw [if_pos e, if_pos e, e, up_s, up_s]
      exact ⟨rfl, rfl, ha1, ha, hb⟩
    · have hj : j < knj c + 1 := hj
      rw [if_neg e, if_neg e, up_n _ _ e, up_n _ _ e]
      exact h.2.1 j (by omega)
  · unfold plOk
    rw [nj_p hn k6, nj_pl hn]
    by_cases e : j = knj c
    · rw [if_pos e, e, up_s]
      exact Or.inr ⟨hk, rfl, Or.inl ho⟩
    · have hj : j < knj c + 1 := hj
      rw [if_neg e, up_n _ _ e]
      exact h.2.2.1 j (by omega)
  · show pT 6 (kld c) (nI k) (aT 6 (kld c) (nI k) + nI a) x = _
    rw [nj_load hn k6 ha, pT_nI k6 (by decide), cld h k6, nI_add]
    by_cases e : x = k
    · rw [e, up_s, if_pos rfl]
    · rw [up_n _ _ e, if_neg (Ne.symm e), h.2.2.2.1 x hx]
      rfl
  · show ksm c + nI a = _
    rw [nj_all hn k6 ha, h.2.2.2.2.2.1, nI_add]
  · show kmo c = mvF (sNewJob c (nI a) (nI b) (nI k)) (knj c) + kmv (sNewJob c (nI a) (nI b) (nI k)) (knj c)
    rw [nj_mvF hn _ (Nat.le_refl _), nj_mv hn, up_s, Int32.add_zero]
    exact h.2.2.2.2.2.2.2
end NJ
section FJ
variable {c : CS} {j : Nat}
theorem fj_pl (hj : j < 24) : kpl (sEnd c (nI j)) = upd (kpl c) j (-9) := pT_nI hj (by decide) _ _
theorem fj_p (hj : j < 24) (i : Nat) : pN (sEnd c (nI j)) i = if i = j then 9 else pN c i := by
  by_cases e : i = j
  · rw [if_pos e]
    refine pN_of9 ?_
    rw [fj_pl hj, e, up_s]
  · rw [if_neg e]
    unfold pN
    rw [fj_pl hj, up_n _ _ e]
theorem fj_load (hn : knj c ≤ 24) (hj : j < knj c) {x : Nat} (hx : x ≠ 9) : loadN (sEnd c (nI j)) x + (if pN c j = x then zN c j else 0) = loadN c x := by
  have w := su_chg (f := lzN (sEnd c (nI j)) x) (g := lzN c x) (j := j) (n := knj c) hj (fun i _ hi => by
    unfold lzN
    rw [fj_p (by omega), if_neg hi]
    rfl)
  have e : lzN (sEnd c (nI j)) x j = 0 := by
    unfold lzN
    rw [fj_p (by omega), if_pos rfl, if_neg (Ne.symm hx)]
  rw [e] at w
  exact w
theorem fj_all (hn : knj c ≤ 24) (hj : j < knj c) (h9 : ¬ pN c j = 9) : allN (sEnd c (nI j)) + zN c j = allN c := by
  have w := su_chg (f := azN (sEnd c (nI j))) (g := azN c) (j := j) (n := knj c) hj (fun i _ hi => by
    unfold azN
    rw [fj_p (by omega), if_neg hi]
    rfl)
  have e : azN (sEnd c (nI j)) j = 0 := by
    unfold azN
    rw [fj_p (by omega), if_pos rfl, if_pos rfl]
  have e2 : azN c j = zN c j := if_neg h9
  rw [e, e2] at w
  exact w
theorem fj_CI (h : CI c) (hj : j < knj c) (h9 : ¬ pN c j = 9) : CI (sEnd c (nI j)) := by
  have hn := ci_nj h
  have j24 : j < 24 := by omega
  have a6 := (ci_p6 h hj h9).2
  have mvE : ∀ n, mvF (sEnd c (nI j)) n = mvF c n := by
    intro n
    induction n with
    | zero => rfl
    | succ n ih =>
      unfold mvF
      rw [ih]
      rfl
  have le : ∀ x, pN c j = x → zN c j ≤ loadN c x := fun x e => by
    have := su_pt (f := lzN c x) (n := knj c) (j := j) hj
    unfold lzN at this
    rw [if_pos e] at this
    exact this
  refine ⟨h.1, h.2.1, fun i hi => ?_, fun x hx => ?_, h.2.2.2.2.1, ?_, h.2.2.2.2.2.2.1, ?_⟩
  · unfold plOk
    rw [fj_p j24, fj_pl j24]
    by_cases e : i = j
    · rw [if_pos e, e, up_s]
      exact Or.inl ⟨rfl, rfl⟩
    · rw [if_neg e, up_n _ _ e]
      exact h.2.2.1 i hi
  · have w := fj_load hn hj (x := x) (by omega)
    show pT 6 (kld c) (aT 24 (kpl c) (nI j)) (aT 6 (kld c) (aT 24 (kpl c) (nI j)) - aT 24 (ksz c) (nI j)) x = _
    rw [cpl h hj h9, cz h hj, pT_nI a6 (by decide), cld h a6]
    by_cases e : x = pN c j
    · rw [if_pos e.symm] at w
      rw [e, up_s, ← e, pk_sub (le x e.symm)]
      exact congrArg nI (by omega)
    · rw [if_neg (Ne.symm e)] at w
      rw [up_n _ _ e, h.2.2.2.1 x hx]
      exact congrArg nI (by omega)
  · have w := fj_all hn hj h9
    show ksm c - aT 24 (ksz c) (nI j) = _
    rw [cz h hj, h.2.2.2.2.2.1, pk_sub (by omega)]
    exact congrArg nI (by omega)
  · show kmo c = mvF (sEnd c (nI j)) (knj c)
    rw [mvE]
    exact h.2.2.2.2.2.2.2
end FJ
