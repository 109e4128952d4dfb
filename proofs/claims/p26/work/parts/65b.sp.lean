/-! ===== what each action does ===== -/
section SP
variable {c : CS}
theorem pl_pl {d : CS} {s1 s2 : Nat} (h : CX s1 c) (h2 : CX s2 d) {i j : Nat} (hi : i < knj d) (hj : j < knj c) (e : pN d i = pN c j) : aT 24 (kpl d) (nI i) = aT 24 (kpl c) (nI j) := by
  by_cases g : pN c j = 9
  · rw [(cp9 h hj).mpr g, (cp9 h2 hi).mpr (e.trans g)]
  · rw [cpl h hj g, cpl h2 hi (fun q => g (e.symm.trans q)), e]
theorem bu_le (w : WI c) {q : Nat} (hq : q < 2 ^ 31) : nI q ≤ kbu c ↔ q ≤ buN c := by
  have b := w.2.2
  rw [w.2.1]
  exact nI_leI hq (by omega)
theorem mv_sp (w : WI c) {j k : Nat} (hj : j < knj c) (hk : k < knv c) : (¬ pN c j = 9 ∧ pN c j ≠ k ∧ kop c k = 1 ∧ qN c j ≤ buN c ∧ fMove c (nI j) (nI k) = (nI (gtN (sTake c (nI j) (nI k))), sTake c (nI j) (nI k)) ∧ WI (sTake c (nI j) (nI k))) ∨ ((pN c j = 9 ∨ pN c j = k ∨ ¬ kop c k = 1 ∨ buN c < qN c j) ∧ fMove c (nI j) (nI k) = (-2, c)) := by
  have h := w.1
  have k6 := ci_v h hk
  have hq := ci_q h hj
  have e0 : fMove c (nI j) (nI k) = (if pFin c (nI j) ∨ aT 24 (kpl c) (nI j) = nI k ∨ ¬ pOpen c (nI k) then (-2, c) else (if aT 24 (kpr c) (nI j) ≤ kbu c then (sGreatest (sTake c (nI j) (nI k)), sTake c (nI j) (nI k)) else (-2, c))) := if_pos ⟨hasJ h hj, hasS h hk⟩
  rw [e0]
  by_cases g : pN c j = 9 ∨ pN c j = k ∨ ¬ kop c k = 1
  · right
    refine ⟨g.elim Or.inl (fun q => Or.inr (q.elim Or.inl (fun q => Or.inr (Or.inl q)))), if_pos ?_⟩
    rcases g with g | g | g
    · exact Or.inl ((cp9 h hj).mpr g)
    · exact Or.inr (Or.inl ((cpk h hj k6).mpr g))
    · exact Or.inr (Or.inr (fun q => g ((copI k6).mp q)))
  · have g1 : ¬ pN c j = 9 := fun q => g (Or.inl q)
    have g2 : pN c j ≠ k := fun q => g (Or.inr (Or.inl q))
    have g3 : kop c k = 1 := Classical.byContradiction (fun q => g (Or.inr (Or.inr q)))
    rw [if_neg (fun q => q.elim (fun q => g1 ((cp9 h hj).mp q)) (fun q => q.elim (fun q => g2 ((cpk h hj k6).mp q)) (fun q => q ((copI k6).mpr g3)))), cq h hj]
    by_cases g4 : qN c j ≤ buN c
    · left
      have C := tk_CX h hj g1 hk g3 (Ne.symm g2)
      rw [if_pos ((bu_le w (by omega)).mpr g4), great_eq C]
      exact ⟨g1, g2, g3, g4, rfl, C, (tk_BI h w.2 hj g4 _).1⟩
    · right
      exact ⟨Or.inr (Or.inr (Or.inr (by omega))), if_neg (fun q => g4 ((bu_le w (by omega)).mp q))⟩
theorem ap_iff (h : CI c) {i j : Nat} (hi : i < knj c) (hj : j < knj c) : pApart c (nI i) (nI j) ↔ ¬ pN c i = 9 ∧ ¬ pN c j = 9 ∧ ¬ pN c i = pN c j := by
  show (¬ pFin c (nI i) ∧ ¬ pFin c (nI j) ∧ ¬ aT 24 (kpl c) (nI i) = aT 24 (kpl c) (nI j)) ↔ _
  rw [cfin h hi, cfin h hj, cpp h hi hj]
theorem ex_do (w : WI c) {i j : Nat} (hi : i < knj c) (hj : j < knj c) (h1 : ¬ pN c i = 9) (h2 : ¬ pN c j = 9) (h3 : ¬ pN c i = pN c j) (hq : qN c i + qN c j ≤ buN c) : WI (sExch c (nI i) (nI j)) ∧ pN (sExch c (nI i) (nI j)) i = pN c j ∧ pN (sExch c (nI i) (nI j)) j = pN c i ∧ kmo (sExch c (nI i) (nI j)) = kmo c + 2 ∧ knv (sExch c (nI i) (nI j)) = knv c ∧ knj (sExch c (nI i) (nI j)) = knj c := by
  have h := w.1
  have i24 := ci_j h hi
  have j24 := ci_j h hj
  have ij : i ≠ j := fun q => h3 (by rw [q])
  have p1 := ci_p6 h hi h1
  have p2 := ci_p6 h hj h2
  have o1 := ci_op h hi h1
  have o2 := ci_op h hj h2
  have e : sExch c (nI i) (nI j) = sTake (sTake c (nI i) (nI (pN c j))) (nI j) (nI (pN c i)) := by
    unfold sExch
    rw [cpl h hj h2, cpl h hi h1]
  have C1 := tk_CX h hi h1 p2.1 o2 (Ne.symm h3)
  have B1 := tk_BI h w.2 hi (by omega) (nI (pN c j))
  have P1 := fun x => tk_p (c := c) i24 (k := pN c j) (by omega) x
  have pj : pN (sTake c (nI i) (nI (pN c j))) j = pN c j := by rw [P1, if_neg (Ne.symm ij)]
  have hj1 : j < knj (sTake c (nI i) (nI (pN c j))) := hj
  have C2 := tk_CX C1 hj1 (by rw [pj]; exact h2) (k := pN c i) p1.1 o1 (by rw [pj]; exact h3)
  have B2 := tk_BI C1 B1.1 hj1 (by have : qN (sTake c (nI i) (nI (pN c j))) j = qN c j := rfl; omega) (nI (pN c i))
  have P2 := fun x => tk_p (c := sTake c (nI i) (nI (pN c j))) j24 (k := pN c i) (by omega) x
  rw [e]
  refine ⟨⟨C2, B2.1⟩, ?_, ?_, ?_, rfl, rfl⟩
  · rw [P2, if_neg ij, P1, if_pos rfl]
  · rw [P2, if_pos rfl]
  · show kmo c + 1 + 1 = _
    rw [Int32.add_assoc]
    rfl
theorem ex_sp (w : WI c) {i j : Nat} (hi : i < knj c) (hj : j < knj c) : (i ≠ j ∧ ¬ pN c i = 9 ∧ ¬ pN c j = 9 ∧ ¬ pN c i = pN c j ∧ qN c i + qN c j ≤ buN c ∧ fExch c (nI i) (nI j) = (nI (gtN (sExch c (nI i) (nI j))), sExch c (nI i) (nI j))) ∨ (i = j ∧ fExch c (nI i) (nI j) = (-1, c)) ∨ (i ≠ j ∧ (pN c i = 9 ∨ pN c j = 9 ∨ pN c i = pN c j ∨ buN c < qN c i + qN c j) ∧ fExch c (nI i) (nI j) = (-2, c)) := by
  have h := w.1
  have q1 := ci_q h hi
  have q2 := ci_q h hj
  have hn := ci_nj h
  by_cases e : i = j
  · right; left
    exact ⟨e, if_neg (fun q => q.2.2 (by rw [e]))⟩
  · have e0 : fExch c (nI i) (nI j) = (if pApart c (nI i) (nI j) ∧ aT 24 (kpr c) (nI i) + aT 24 (kpr c) (nI j) ≤ kbu c then (sGreatest (sExch c (nI i) (nI j)), sExch c (nI i) (nI j)) else (-2, c)) := if_pos ⟨hasJ h hi, hasJ h hj, fun q => e ((nI_eq (by omega) (by omega)).mp q)⟩
    rw [e0, cq h hi, cq h hj, nI_add]
    by_cases g : (¬ pN c i = 9 ∧ ¬ pN c j = 9 ∧ ¬ pN c i = pN c j) ∧ qN c i + qN c j ≤ buN c
    · left
      have D := ex_do w hi hj g.1.1 g.1.2.1 g.1.2.2 g.2
      rw [if_pos ⟨(ap_iff h hi hj).mpr g.1, (bu_le w (by omega)).mpr g.2⟩, great_eq D.1.1]
      exact ⟨e, g.1.1, g.1.2.1, g.1.2.2, g.2, rfl⟩
    · right; right
      refine ⟨e, ?_, if_neg (fun q => g ⟨(ap_iff h hi hj).mp q.1, (bu_le w (by omega)).mp q.2⟩)⟩
      by_cases g1 : pN c i = 9
      · exact Or.inl g1
      · by_cases g2 : pN c j = 9
        · exact Or.inr (Or.inl g2)
        · by_cases g3 : pN c i = pN c j
          · exact Or.inr (Or.inr (Or.inl g3))
          · exact Or.inr (Or.inr (Or.inr (Nat.lt_of_not_le (fun q => g ⟨⟨g1, g2, g3⟩, q⟩))))
theorem rg_sp (w : WI c) {i j k : Nat} (hi : i < knj c) (hj : j < knj c) (hk : k < knj c) : (∃ d, fRing c (nI i) (nI j) (nI k) = (nI (gtN d), d) ∧ WI d ∧ knv d = knv c ∧ knj d = knj c ∧ pN d i = pN c j ∧ pN d j = pN c k ∧ pN d k = pN c i ∧ kmo d = kmo c + 3 ∧ kbu d = kbu c - nI (qN c i) - nI (qN c j) - nI (qN c k) ∧ ∀ x, qN d x = qN c x) ∨ ((i = j ∨ j = k ∨ i = k) ∧ fRing c (nI i) (nI j) (nI k) = (-1, c)) ∨ (i ≠ j ∧ j ≠ k ∧ i ≠ k ∧ fRing c (nI i) (nI j) (nI k) = (-2, c)) := by
  have h := w.1
  have q1 := ci_q h hi
  have q2 := ci_q h hj
  have q3 := ci_q h hk
  have hn := ci_nj h
  have i24 := ci_j h hi
  have j24 := ci_j h hj
  have k24 := ci_j h hk
  by_cases e : i = j ∨ j = k ∨ i = k
  · right; left
    refine ⟨e, if_neg (fun q => ?_)⟩
    rcases e with e | e | e
    · exact q.2.1 (by rw [e])
    · exact q.2.2.1 (by rw [e])
    · exact q.2.2.2 (by rw [e])
  · have ij : i ≠ j := fun q => e (Or.inl q)
    have jk : j ≠ k := fun q => e (Or.inr (Or.inl q))
    have ik : i ≠ k := fun q => e (Or.inr (Or.inr q))
    have n : ∀ a b : Nat, a < 24 → b < 24 → a ≠ b → ¬ nI a = nI b := fun a b ha hb ne q => ne ((nI_eq (by omega) (by omega)).mp q)
    have e0 : fRing c (nI i) (nI j) (nI k) = (if (pApart c (nI i) (nI j) ∧ pApart c (nI j) (nI k) ∧ pApart c (nI k) (nI i)) ∧ aT 24 (kpr c) (nI i) + aT 24 (kpr c) (nI j) + aT 24 (kpr c) (nI k) ≤ kbu c then (sGreatest (sRing c (nI i) (nI j) (nI k)), sRing c (nI i) (nI j) (nI k)) else (-2, c)) := if_pos ⟨⟨hasJ h hi, hasJ h hj, hasJ h hk⟩, n i j i24 j24 ij, n j k j24 k24 jk, n k i k24 i24 (Ne.symm ik)⟩
    rw [e0, cq h hi, cq h hj, cq h hk, nI_add, nI_add]
    by_cases g : ((¬ pN c i = 9 ∧ ¬ pN c j = 9 ∧ ¬ pN c i = pN c j) ∧ (¬ pN c j = 9 ∧ ¬ pN c k = 9 ∧ ¬ pN c j = pN c k) ∧ (¬ pN c k = 9 ∧ ¬ pN c i = 9 ∧ ¬ pN c k = pN c i)) ∧ qN c i + qN c j + qN c k ≤ buN c
    · left
      obtain ⟨⟨⟨n1, n2, a1⟩, ⟨-, n3, a2⟩, ⟨-, -, a3⟩⟩, hq⟩ := g
      rw [if_pos ⟨⟨(ap_iff h hi hj).mpr ⟨n1, n2, a1⟩, (ap_iff h hj hk).mpr ⟨n2, n3, a2⟩, (ap_iff h hk hi).mpr ⟨n3, n1, a3⟩⟩, (bu_le w (by omega)).mpr hq⟩]
      have p1 := ci_p6 h hi n1
      have p2 := ci_p6 h hj n2
      have p3 := ci_p6 h hk n3
      have o1 := ci_op h hi n1
      have o2 := ci_op h hj n2
      have o3 := ci_op h hk n3
      obtain ⟨c1, ec1⟩ : ∃ c1, c1 = sTake c (nI i) (nI (pN c j)) := ⟨_, rfl⟩
      have C1 : CI c1 := by rw [ec1]; exact tk_CX h hi n1 p2.1 o2 (Ne.symm a1)
      have B1 : BI c1 ∧ buN c1 = buN c - qN c i := by rw [ec1]; exact tk_BI h w.2 hi (by omega) _
      have u1 : kbu c1 = kbu c - nI (qN c i) := by rw [ec1]; exact tk_bu h hi _
      have P1 : ∀ x, pN c1 x = if x = i then pN c j else pN c x := fun x => by rw [ec1]; exact tk_p i24 (by omega) x
      have j1 : knj c1 = knj c := by rw [ec1]; rfl
      have v1 : knv c1 = knv c := by rw [ec1]; rfl
      have m1 : kmo c1 = kmo c + 1 := by rw [ec1]; rfl
      have s1 : kop c1 = kop c := by rw [ec1]; rfl
      have r1 : ∀ x, qN c1 x = qN c x := fun x => by rw [ec1]; rfl
      have pj : pN c1 j = pN c j := by rw [P1, if_neg (Ne.symm ij)]
      have pk : pN c1 k = pN c k := by rw [P1, if_neg (Ne.symm ik)]
      have hj1 : j < knj c1 := by rw [j1]; exact hj
      have hk1 : k < knj c1 := by rw [j1]; exact hk
      obtain ⟨c2, ec2⟩ : ∃ c2, c2 = sTake c1 (nI j) (nI (pN c k)) := ⟨_, rfl⟩
      have C2 : CI c2 := by rw [ec2]; exact tk_CX C1 hj1 (by rw [pj]; exact n2) (by rw [v1]; exact p3.1) (by rw [s1]; exact o3) (by rw [pj]; exact Ne.symm a2)
      have B2 : BI c2 ∧ buN c2 = buN c1 - qN c1 j := by rw [ec2]; exact tk_BI C1 B1.1 hj1 (by rw [r1, B1.2]; omega) _
      have u2 : kbu c2 = kbu c1 - nI (qN c1 j) := by rw [ec2]; exact tk_bu C1 hj1 _
      have P2 : ∀ x, pN c2 x = if x = j then pN c k else pN c1 x := fun x => by rw [ec2]; exact tk_p j24 (by omega) x
      have j2 : knj c2 = knj c := by rw [ec2]; exact j1
      have v2 : knv c2 = knv c := by rw [ec2]; exact v1
      have m2 : kmo c2 = kmo c + 1 + 1 := by rw [ec2, ← m1]; rfl
      have s2 : kop c2 = kop c := by rw [ec2]; exact s1
      have r2 : ∀ x, qN c2 x = qN c x := fun x => by rw [ec2]; exact r1 x
      have pk2 : pN c2 k = pN c k := by rw [P2, if_neg (Ne.symm jk), pk]
      have hk2 : k < knj c2 := by rw [j2]; exact hk
      have es : sRing c (nI i) (nI j) (nI k) = sTake c2 (nI k) (nI (pN c i)) := by
        unfold sRing
        rw [cpl h hj n2, cpl h hi n1, ← ec1, cpl C1 hk1 (by rw [pk]; exact n3), pk, ← ec2]
      obtain ⟨d, ed⟩ : ∃ d, d = sTake c2 (nI k) (nI (pN c i)) := ⟨_, rfl⟩
      have C3 : CI d := by rw [ed]; exact tk_CX C2 hk2 (by rw [pk2]; exact n3) (by rw [v2]; exact p1.1) (by rw [s2]; exact o1) (by rw [pk2]; exact Ne.symm a3)
      have B3 : BI d ∧ buN d = buN c2 - qN c2 k := by rw [ed]; exact tk_BI C2 B2.1 hk2 (by rw [r2, B2.2, B1.2, r1]; omega) _
      have u3 : kbu d = kbu c2 - nI (qN c2 k) := by rw [ed]; exact tk_bu C2 hk2 _
      have P3 : ∀ x, pN d x = if x = k then pN c i else pN c2 x := fun x => by rw [ed]; exact tk_p k24 (by omega) x
      rw [es, ← ed, great_eq C3]
      refine ⟨d, rfl, ⟨C3, B3.1⟩, by rw [ed]; exact v2, by rw [ed]; exact j2, ?_, ?_, ?_, ?_, ?_, fun x => by rw [ed]; exact r2 x⟩
      · rw [P3, if_neg ik, P2, if_neg ij, P1, if_pos rfl]
      · rw [P3, if_neg jk, P2, if_pos rfl]
      · rw [P3, if_pos rfl]
      · rw [ed]
        show kmo c2 + 1 = _
        rw [m2, Int32.add_assoc, Int32.add_assoc]
        rfl
      · rw [u3, u2, u1, r2, r1]
    · right; right
      exact ⟨ij, jk, ik, if_neg (fun q => g ⟨⟨(ap_iff h hi hj).mp q.1.1, (ap_iff h hj hk).mp q.1.2.1, (ap_iff h hk hi).mp q.1.2.2⟩, (bu_le w (by omega)).mp q.2⟩)⟩
theorem fin_sp (w : WI c) {j : Nat} (hj : j < knj c) : (¬ pN c j = 9 ∧ fEnd c (nI j) = (nI (loadN c (pN c j)) - nI (zN c j), sEnd c (nI j)) ∧ WI (sEnd c (nI j)) ∧ pN (sEnd c (nI j)) j = 9) ∨ (pN c j = 9 ∧ fEnd c (nI j) = (-2, c)) := by
  have h := w.1
  have e0 : fEnd c (nI j) = if pFin c (nI j) then (-2, c) else (aT 6 (kld (sEnd c (nI j))) (aT 24 (kpl c) (nI j)), sEnd c (nI j)) := if_pos (hasJ h hj)
  rw [e0]
  by_cases g : pN c j = 9
  · right
    exact ⟨g, if_pos ((cp9 h hj).mpr g)⟩
  · left
    have F := fj_CI h hj g
    have a6 := (ci_p6 h hj g).2
    have l := fj_load (ci_nj h) hj (x := pN c j) g
    rw [if_pos rfl] at l
    rw [if_neg (fun q => g ((cp9 h hj).mp q)), cpl h hj g, cld F a6, pk_sub (by omega)]
    refine ⟨g, ?_, ⟨F, w.2⟩, by rw [fj_p (ci_j h hj), if_pos rfl]⟩
    rw [show loadN (sEnd c (nI j)) (pN c j) = loadN c (pN c j) - zN c j by omega]
theorem add_sp (w : WI c) {a b k : Nat} (ha1 : 1 ≤ a) (ha : a ≤ 1000) (hb : b ≤ 100) (hk : k < knv c) : (¬ kop c k = 1 ∧ fNewJob c (nI a) (nI b) (nI k) = (-2, c)) ∨ (kop c k = 1 ∧ knj c = 24 ∧ fNewJob c (nI a) (nI b) (nI k) = (-3, c)) ∨ (kop c k = 1 ∧ knj c < 24 ∧ fNewJob c (nI a) (nI b) (nI k) = (nI (knj c), sNewJob c (nI a) (nI b) (nI k)) ∧ WI (sNewJob c (nI a) (nI b) (nI k)) ∧ loadN (sNewJob c (nI a) (nI b) (nI k)) k = loadN c k + a) := by
  have h := w.1
  have k6 := ci_v h hk
  have n24 := ci_nj h
  have e0 : fNewJob c (nI a) (nI b) (nI k) = (if pOpen c (nI k) then (if nI (knj c) < 24 then (nI (knj c + 1) - 1, sNewJob c (nI a) (nI b) (nI k)) else (-3, c)) else (-2, c)) := if_pos ⟨⟨fun q => absurd ((nI_ltI (b := 1) (by omega) (by decide)).mp q) (by omega), fun q => absurd ((nI_ltI (a := 1000) (by decide) (by omega)).mp q) (by omega)⟩, ⟨nI_pos (by omega), fun q => absurd ((nI_ltI (a := 100) (by decide) (by omega)).mp q) (by omega)⟩, hasS h hk⟩
  rw [e0]
  by_cases g : kop c k = 1
  · rw [if_pos ((copI k6).mpr g)]
    by_cases g2 : knj c < 24
    · right; right
      rw [if_pos (show nI (knj c) < 24 from (nI_ltI (b := 24) (by omega) (by decide)).mpr g2), nI_pred]
      refine ⟨g, g2, rfl, ⟨nj_CI h g2 ha1 ha hb hk g, w.2⟩, ?_⟩
      rw [nj_load g2 k6 ha, if_pos rfl]
    · right; left
      exact ⟨g, by omega, if_neg (fun q => g2 ((nI_ltI (b := 24) (by omega) (by decide)).mp q))⟩
  · left
    exact ⟨g, if_neg (fun q => g ((copI k6).mp q))⟩
theorem srv_sp (w : WI c) : (knv c = 6 ∧ fNewServer c = (-3, c)) ∨ (knv c < 6 ∧ fNewServer c = (nI (knv c), sSrv c) ∧ WI (sSrv c) ∧ kop (sSrv c) (knv c) = 1 ∧ loadN (sSrv c) (knv c) = 0) := by
  have h := w.1
  have v6 := ci_nv h
  by_cases g : knv c < 6
  · right
    refine ⟨g, ?_, ⟨srv_CI h g, w.2⟩, by rw [srv_op g, up_s], load_shut h (by omega) (Or.inl (Nat.le_refl _))⟩
    unfold fNewServer
    rw [if_pos (show nI (knv c) < 6 from (nI_ltI (b := 6) (by omega) (by decide)).mpr g), nI_pred]
  · left
    exact ⟨by omega, if_neg (fun q => g ((nI_ltI (b := 6) (by omega) (by decide)).mp q))⟩
theorem opn_sp (w : WI c) {k : Nat} (hk : k < knv c) : (kop c k = 1 ∧ fOpen c (nI k) = (-2, c)) ∨ (¬ kop c k = 1 ∧ fOpen c (nI k) = (nI (opN (sOpn c k)), sOpn c k) ∧ WI (sOpn c k) ∧ kop (sOpn c k) k = 1) := by
  have h := w.1
  have k6 := ci_v h hk
  have e0 : fOpen c (nI k) = (if pOpen c (nI k) then (-2, c) else (knO c + 1, sOpn c k)) := if_pos (hasS h hk)
  rw [e0]
  by_cases g : kop c k = 1
  · left
    exact ⟨g, if_pos ((copI k6).mpr g)⟩
  · right
    rw [if_neg (fun q => g ((copI k6).mp q)), h.2.2.2.2.1.1, nI_1, ← opn_opN (ci_nv h) hk g]
    exact ⟨g, rfl, ⟨opn_CI h hk g, w.2⟩, by rw [opn_op k6, up_s]⟩
theorem bud_sp (w : WI c) {b : Nat} (hb : b ≤ 10000) : fBudget c (nI b) = (kbu c, ubu c (nI b)) ∧ WI (ubu c (nI b)) := by
  have e : buN (ubu c (nI b)) = b := buN_of rfl (by omega)
  exact ⟨if_pos ⟨nI_pos (by omega), nI_le hb (by decide)⟩, bu_CX w.1 _, ⟨by rw [e], by omega⟩⟩
theorem fac_sp (w : WI c) {f : Nat} (h1 : 100 ≤ f) (h2 : f ≤ 400) : fFactor c (nI f) = (nI (tgN (ufa c (nI f))), ufa c (nI f)) ∧ WI (ufa c (nI f)) := by
  have C := fa_CX w.1 h1 h2
  refine ⟨?_, C, w.2⟩
  unfold fFactor
  rw [if_pos ⟨fun q => absurd ((nI_ltI (b := 100) (by omega) (by decide)).mp q) (by omega), nI_le h2 (by decide)⟩, target_eq C]
theorem wo_sp (w : WI c) {k : Nat} (hk : k < knv c) : ((¬ kop c k = 1 ∨ opN c = 1) ∧ sWithout c (nI k) = -2 ∧ fClose c (nI k) = (-2, c)) ∨ (kop c k = 1 ∧ 1 < opN c ∧ sWithout c (nI k) = nI (gtN (sClose c (nI k))) ∧ buN c < prN c k ∧ fClose c (nI k) = (-2, c)) ∨ (kop c k = 1 ∧ 1 < opN c ∧ sWithout c (nI k) = nI (gtN (sClose c (nI k))) ∧ prN c k ≤ buN c ∧ fClose c (nI k) = (nI (manyN c k), sClose c (nI k)) ∧ WI (sClose c (nI k)) ∧ knv (sClose c (nI k)) = knv c ∧ kmo (sClose c (nI k)) = kmo c + nI (manyN c k) ∧ kbu (sClose c (nI k)) = kbu c - nI (prN c k) ∧ ¬ kop (sClose c (nI k)) k = 1 ∧ loadN (sClose c (nI k)) k = 0) := by
  have h := w.1
  have k6 := ci_v h hk
  have ol := op_le c
  have v6 := ci_nv h
  have o0 := h.2.2.2.2.1.2
  have e1 : sWithout c (nI k) = (if pOpen c (nI k) ∧ ¬ knO c ≤ 1 then sGreatest (sClose c (nI k)) else -2) := if_pos (hasS h hk)
  have e2 : fClose c (nI k) = (if pOpen c (nI k) ∧ ¬ knO c ≤ 1 ∧ sPrices c (nI k) ≤ kbu c then (rClose c (nI k), sClose c (nI k)) else (-2, c)) := if_pos (hasS h hk)
  have iO : knO c ≤ 1 ↔ opN c ≤ 1 := by
    rw [h.2.2.2.2.1.1]
    exact nI_leI (b := 1) (by omega) (by decide)
  by_cases g : kop c k = 1 ∧ 1 < opN c
  · right
    obtain ⟨r, C, nv, nj, mo, bu, nk, l0⟩ := cl_ok h hk g.1 g.2
    have go : ¬ knO c ≤ 1 := fun q => absurd (iO.mp q) (by omega)
    have pl := pr_le h k
    rw [e1, e2, if_pos ⟨(copI k6).mpr g.1, go⟩, great_eq C, pr_eq h k6, r]
    by_cases g2 : prN c k ≤ buN c
    · right
      rw [if_pos ⟨(copI k6).mpr g.1, go, (bu_le w (by omega)).mpr g2⟩]
      have eb : kbu (sClose c (nI k)) = nI (buN c - prN c k) := by rw [bu, w.2.1, pk_sub g2]
      have eb2 := buN_of eb (by have := w.2.2; omega)
      exact ⟨g.1, g.2, rfl, g2, rfl, ⟨C, by rw [eb2]; exact eb, by rw [eb2]; have := w.2.2; omega⟩, nv, mo, bu, nk, l0⟩
    · left
      exact ⟨g.1, g.2, rfl, by omega, if_neg (fun q => g2 ((bu_le w (by omega)).mp q.2.2))⟩
  · left
    have g2 : ¬ kop c k = 1 ∨ opN c = 1 := by
      by_cases q : kop c k = 1
      · have : ¬ 1 < opN c := fun z => g ⟨q, z⟩
        exact Or.inr (by omega)
      · exact Or.inl q
    have ng : ¬ (pOpen c (nI k) ∧ ¬ knO c ≤ 1) := fun q => g ⟨(copI k6).mp q.1, Nat.lt_of_not_le (fun z => q.2 (iO.mpr z))⟩
    exact ⟨g2, e1.trans (if_neg ng), e2.trans (if_neg (fun q => ng ⟨q.1, q.2.1⟩))⟩
/-! the plan, and its first step -/
abbrev x00 : SS := (0, 0, 0, 0, 0)
def pS (c : CS) : Nat := (wkF (sTarget c) 30 (c, x00)).1
def pD (c : CS) : CS := (wkF (sTarget c) 30 (c, x00)).2.1
theorem fw30 (c : CS) (x : SS) : (fWalk c x 30).1 = nI (pS c) ∧ (fWalk c x 30).2.1 = pD c := by
  have e : fWalk c x 30 = (nI (wkF (sTarget c) 30 (c, x)).1, (wkF (sTarget c) 30 (c, x)).2) := if_pos (by decide)
  have k := wk_ind 30 c x x00 (sTarget c)
  rw [e]
  exact ⟨congrArg nI k.1, k.2⟩
theorem pl0 (c : CS) (x : SS) : sPlan c x 0 = nI (pS c) := (if_pos (by decide)).trans (fw30 c x).1
theorem pl1 (c : CS) (x : SS) : sPlan c x 1 = kmo (pD c) - kmo c := (if_pos (by decide)).trans (by rw [← (fw30 c x).2]; rfl)
theorem pl2 (c : CS) (x : SS) : sPlan c x 2 = kbu c - kbu (pD c) := (if_pos (by decide)).trans (by rw [← (fw30 c x).2]; rfl)
theorem pl3 (c : CS) (x : SS) : sPlan c x 3 = sGreatest (pD c) := by
  unfold sPlan
  rw [if_pos (by decide), if_neg (by decide), if_neg (by decide), if_neg (by decide), if_pos rfl, (fw30 c x).2]
theorem pl4 (c : CS) (x : SS) : sPlan c x 4 = if pEven (pD c) then 1 else 0 := by
  unfold sPlan
  rw [if_pos (by decide), if_neg (by decide), if_neg (by decide), if_neg (by decide), if_neg (by decide), (fw30 c x).2]
theorem pd_ok (w : WI c) : WI (pD c) ∧ knv (pD c) = knv c ∧ knj (pD c) = knj c ∧ tgN (pD c) = tgN c ∧ gtN (pD c) ≤ gtN c ∧ pS c ≤ 30 ∧ (∃ m : Nat, pS c ≤ m ∧ m ≤ 2 * pS c ∧ kmo (pD c) = kmo c + nI m) ∧ (pS c < 30 → ∀ y, ¬ pChoose (pD c) (sTarget c) y) := by
  have k := wk_ok 30 c x00 w.1 w.2 (sTarget c) rfl
  exact ⟨⟨k.1, k.2.1⟩, k.2.2⟩
theorem ps_0 (c : CS) (x : SS) : pS c = 0 ↔ ¬ pChoose c (sTarget c) x := by
  unfold pS
  rw [show (30 : Nat) = 29 + 1 from rfl]
  unfold wkF
  by_cases g : pChoose c (sTarget c) x
  · rw [if_pos (show pChoose (c, x00).1 (sTarget c) (c, x00).2 from (ch_ind c (sTarget c) x x00).1.mp g)]
    exact ⟨fun q => absurd q (Nat.succ_ne_zero _), fun q => absurd g q⟩
  · rw [if_neg (show ¬ pChoose (c, x00).1 (sTarget c) (c, x00).2 from fun q => g ((ch_ind c (sTarget c) x x00).1.mpr q))]
    exact ⟨fun _ => g, fun _ => rfl⟩
theorem ps_even (w : WI c) (h : gtN c ≤ tgN c) : pS c = 0 := by
  refine (ps_0 c x00).mpr (fun q => ?_)
  exact (even_iff w.1).mpr h (Int32.lt_of_lt_of_le q.1 (Int32.le_refl _))
theorem ps_D (w : WI c) (h : pS c < 30) : pS (pD c) = 0 := by
  have k := pd_ok w
  refine (ps_0 (pD c) x00).mpr (fun q => k.2.2.2.2.2.2.2 h x00 ?_)
  have e : sTarget (pD c) = sTarget c := by rw [target_eq w.1, target_eq k.1.1, k.2.2.2.1]
  rw [e] at q
  exact q
theorem st_9 (h : pS c = 0) (x : SS) (p : Int32) : (¬ p < 0 ∧ p ≤ 3) → sStep c x p = -9 := fun q => (if_pos q).trans (if_neg ((ps_0 c x).mp h))
theorem st_sp (w : WI c) (h0 : 0 < pS c) : ∃ (f j g : Nat) (Y : SS) (A : CS), (∀ x, sStep c x 0 = nI j ∧ sStep c x 1 = nI g ∧ sStep c x 2 = kSother Y ∧ sStep c x 3 = kSprice Y) ∧ (∀ x, ∃ z, fWalk c x 1 = (1, (A, z))) ∧ f < knv c ∧ j < knj c ∧ g < knv c ∧ pN c j = f ∧ loadN c f = gtN c ∧ ¬ kbu c < kSprice Y ∧ WI A ∧ kbu A = kbu c - kSprice Y ∧ pN A j = g ∧ loadN A f < loadN c f ∧ loadN A g < loadN c f ∧ knv A = knv c ∧ knj A = knj c ∧ gtN A ≤ gtN c ∧ (pS c < 30 → pS A + 1 = pS c) ∧ ((kSother Y = -9 ∧ fMove c (nI j) (nI g) = (nI (gtN A), A)) ∨ ∃ i, i < knj c ∧ kSother Y = nI i ∧ pN A i = f ∧ fExch c (nI j) (nI i) = (nI (gtN A), A)) := by
  have h := w.1
  have ch : ∀ x, pChoose c (sTarget c) x := fun x => Classical.byContradiction (fun q => absurd ((ps_0 c x).mpr q) (by omega))
  have t0 : (0 : Int32) ≤ sTarget c := by rw [target_eq h]; exact nI_pos' (by have := tg_le h; omega)
  obtain ⟨f, f0, f6, e, o, g, m, so⟩ := ch_ok h t0 (ch x00)
  obtain ⟨Y, eY⟩ : ∃ Y, Y = sChoose c (sTarget c) x00 := ⟨_, rfl⟩
  rw [← eY] at so
  have same : ∀ x, sChoose c (sTarget c) x = Y := fun x => by rw [eY]; exact (ch_ind c (sTarget c) x x00).2 (ch x)
  have A := ap_ok h w.2 f0 g o so
  obtain ⟨A1, A2, A3, A4, A5, A6, -, A8, A9, j, gg, hj, ej, hg, eg, hp, hgf, og, lg, pj, oth⟩ := A
  have WA : WI (sApply c Y) := ⟨A1, A2⟩
  have tE : sTarget (sApply c Y) = sTarget c := by rw [target_eq h, target_eq A1, A5]
  have stE : stp (sTarget c) (c, x00) = (sApply c Y, Y) := by
    show (sApply c (sChoose c (sTarget c) x00), sChoose c (sTarget c) x00) = _
    rw [same]
  have walk1 : (wkF (sTarget c) 30 (c, x00)).1 = (wkF (sTarget c) 29 (sApply c Y, Y)).1 + 1 := by
    rw [show (30 : Nat) = 29 + 1 from rfl]
    show (wkF (sTarget c) (29 + 1) (c, x00)).1 = _
    unfold wkF
    rw [if_pos (show pChoose (c, x00).1 (sTarget c) (c, x00).2 from ch x00), stE]
    rfl
  refine ⟨f, j, gg, Y, sApply c Y, fun x => ?_, fun x => ⟨Y, ?_⟩, f0, hj, hg, hp, g, so.2, WA, A8, pj, A9, lg, A3, A4, A6, fun h30 => ?_, ?_⟩
  · have c0 : ∀ p : Int32, (¬ p < 0 ∧ p ≤ 3) → sStep c x p = (if p = 0 then kSjob Y else if p = 1 then kSgoal Y else if p = 2 then kSother Y else kSprice Y) := fun p hp => by
      unfold sStep
      rw [if_pos hp, if_pos (ch x), same]
    refine ⟨(c0 0 (by decide)).trans ej, (c0 1 (by decide)).trans eg, c0 2 (by decide), c0 3 (by decide)⟩
  · have e1 : fWalk c x 1 = (nI (wkF (sTarget c) 1 (c, x)).1, (wkF (sTarget c) 1 (c, x)).2) := if_pos (by decide)
    have e2 : wkF (sTarget c) 1 (c, x) = (1, (sApply c Y, Y)) := by
      show wkF (sTarget c) (0 + 1) (c, x) = _
      unfold wkF
      rw [if_pos (show pChoose (c, x).1 (sTarget c) (c, x).2 from ch x)]
      show (0 + 1, (sApply c (sChoose c (sTarget c) x), sChoose c (sTarget c) x)) = _
      rw [same]
    rw [e1, e2]
    rfl
  · have e1 : (wkF (sTarget c) 29 (sApply c Y, Y)).1 + 1 = pS c := walk1.symm
    have mo := wk_more (sTarget c) 29 (sApply c Y, Y) (by omega)
    have i := (wk_ind 30 (sApply c Y) x00 Y (sTarget c)).1
    have mo2 : wkF (sTarget c) 30 (sApply c Y, Y) = wkF (sTarget c) 29 (sApply c Y, Y) := mo
    unfold pS
    rw [tE, i, mo2]
    exact e1
  · rcases so.1 with ⟨j2, k2, hj2, hk2, f1, f2, f3, f4, hp2, ne2, ok2, -⟩ | ⟨j2, i2, hj2, hi2, f1, f2, f3, f4, hp2, n9, ne2, -, -⟩
    · left
      have ej2 : j2 = j := (nI_eq (by have := ci_nj h; omega) (by have := ci_nj h; omega)).mp (f1.symm.trans ej)
      have ek2 : k2 = gg := (nI_eq (by have := ci_nv h; omega) (by have := ci_nv h; omega)).mp (f2.symm.trans eg)
      subst ej2 ek2
      have eA : sApply c Y = sTake c (nI j2) (nI k2) := by
        unfold sApply
        rw [if_pos f3, f1, f2]
      have hq := ci_q h hj2
      have hb := so.2
      rw [f4] at hb
      refine ⟨f3, ?_⟩
      rcases mv_sp w hj2 hk2 with ⟨-, -, -, -, em, -⟩ | ⟨bad, -⟩
      · rw [em, eA]
      · have := ci_v h f0
        have b2 : qN c j2 ≤ buN c := (bu_le w (by omega)).mp (Int32.not_lt.mp hb)
        rcases bad with q | q | q | q
        · omega
        · omega
        · exact absurd ok2 q
        · omega
    · right
      have ej2 : j2 = j := (nI_eq (by have := ci_nj h; omega) (by have := ci_nj h; omega)).mp (f1.symm.trans ej)
      subst ej2
      have q1 := ci_q h hj2
      have q2 := ci_q h hi2
      have fl := ci_v h f0
      have n9j : ¬ pN c j2 = 9 := by omega
      have eA : sApply c Y = sExch c (nI j2) (nI i2) := by
        unfold sApply sExch
        rw [if_neg (by rw [f3]; exact ne9 (by have := ci_nj h; omega)), f1, f2, f3, cpl h hi2 n9]
      have hb := so.2
      rw [f4] at hb
      have b2 : qN c j2 + qN c i2 ≤ buN c := (bu_le w (by omega)).mp (Int32.not_lt.mp hb)
      rcases ex_sp w hj2 hi2 with ⟨-, x1, x2, x3, x4, em⟩ | ⟨bad, -⟩ | ⟨-, bad, -⟩
      · have D := ex_do w hj2 hi2 x1 x2 x3 x4
        refine ⟨i2, hi2, f3, ?_, by rw [em, eA]⟩
        rw [eA, D.2.2.1, hp2]
      · exact absurd (by rw [← bad]; exact hp2) ne2
      · rcases bad with q | q | q | q
        · exact absurd q n9j
        · exact absurd q n9
        · omega
        · omega
theorem evn_sp (w : WI c) (x : SS) {p : Nat} (h1 : 1 ≤ p) (h2 : p ≤ 30) : (fWalk c x (nI p)).1 = nI (min p (pS c)) ∧ WI (fWalk c x (nI p)).2.1 ∧ knv (fWalk c x (nI p)).2.1 = knv c := by
  have e : fWalk c x (nI p) = (nI (wkF (sTarget c) p (c, x)).1, (wkF (sTarget c) p (c, x)).2) := by
    refine (if_pos ⟨fun q => absurd ((nI_ltI (b := 1) (by omega) (by decide)).mp q) (by omega), nI_le h2 (by decide)⟩).trans ?_
    show (nI (wkF (sTarget c) (nI p).toNatClampNeg (c, x)).1, (wkF (sTarget c) (nI p).toNatClampNeg (c, x)).2) = _
    rw [nI_clamp (by omega)]
  have k := wk_ok p c x w.1 w.2 (sTarget c) rfl
  rw [e]
  refine ⟨?_, ⟨k.1, k.2.1⟩, k.2.2.1⟩
  have mn := wk_min (sTarget c) p (30 - p) (c, x)
  rw [show p + (30 - p) = 30 by omega, (wk_ind 30 c x x00 (sTarget c)).1] at mn
  exact congrArg nI mn
end SP
