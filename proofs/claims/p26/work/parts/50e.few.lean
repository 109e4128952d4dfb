/-! ===== the fewest moves ===== -/
def abN (c : CS) (t k : Nat) : Nat := if loadN c k ≤ t then 0 else 1
theorem above_eq {c : CS} {s : Nat} (h : CX s c) {t : Nat} (ht : t < 2 ^ 31) : sAbove c (nI t) = nI (su (abN c t) (knv c)) := above_up h ht _ (Nat.le_refl _)
theorem ab_le (c : CS) (t : Nat) : su (abN c t) (knv c) ≤ knv c := by
  have h1 := su_bd (f := abN c t) (B := 1) (n := knv c) (fun k _ => by unfold abN; split <;> omega)
  omega
theorem ab_0 (c : CS) (t : Nat) : su (abN c t) (knv c) = 0 ↔ gtN c ≤ t := by
  constructor
  · intro e
    refine gt_of (fun k hk => ?_)
    have := su_pt (f := abN c t) (n := knv c) (j := k) hk
    unfold abN at this
    split at this
    · assumption
    · unfold abN at e
      omega
  · intro le
    exact su_zero (fun k hk => by
      have : loadN c k ≤ gtN c := mxN_ge hk
      exact if_pos (by omega))
theorem abF_ld {c d : CS} (e : kld c = kld d) (t : Int32) : ∀ n, abF c t n = abF d t n
  | 0 => rfl
  | n + 1 => by
    unfold abF
    rw [abF_ld e t n, e]
theorem ch0_eq {c d : CS} (e : kld c = kld d) (ev : knv c = knv d) (t : Int32) (f g : Nat) : ch t 0 c f = ch t 0 d g := by
  unfold ch sAbove
  rw [abF_ld e t, ev]
theorem ch0_or (c : CS) (t : Int32) (f : Nat) : ch t 0 c f = 0 ∨ ch t 0 c f = -9 := by
  unfold ch
  split
  · exact Or.inl rfl
  · exact Or.inr rfl
theorem ch0_iff {c : CS} {s : Nat} (h : CX s c) {t : Nat} (ht : t < 2 ^ 31) (f : Nat) : ch (nI t) 0 c f = 0 ↔ gtN c ≤ t := by
  have l := ab_le c t
  have v := ci_nv h
  unfold ch
  rw [above_eq h ht, ← ab_0]
  by_cases g : su (abN c t) (knv c) = 0
  · rw [g]
    exact ⟨fun _ => rfl, fun _ => rfl⟩
  · rw [if_neg (nI_nle (by omega) (by omega))]
    exact ⟨fun q => absurd q (by decide), fun q => absurd q g⟩
def gd (v : Int32) : Prop := v = -9 ∨ ∃ b : Nat, b ≤ 100 ∧ v = nI b
def le9 (v : Int32) (P : Nat) : Prop := ∃ b : Nat, b ≤ P ∧ v = nI b
section FW
variable {c : CS} {rec : CS → Nat → Int32}
theorem chK_gd (h : CI c) (hr : ∀ d f, rec d f = 0 ∨ rec d f = -9) {j : Nat} (hj : j < knj c) {v : Int32} (hv : gd v) : ∀ n, gd (chK rec c j v n)
  | 0 => hv
  | n + 1 => by
    have ih := chK_gd h hr hj hv n
    unfold chK
    split
    · split
      · rename_i q
        rw [(hr _ _).resolve_right q.1, cq h hj, Int32.zero_add]
        exact Or.inr ⟨_, ci_q h hj, rfl⟩
      · exact ih
    · exact ih
theorem chK_le (h : CI c) (hr : ∀ d f, rec d f = 0 ∨ rec d f = -9) {j : Nat} (hj : j < knj c) {v : Int32} {P : Nat} (hP : P ≤ 100) (hv : le9 v P) : ∀ n, le9 (chK rec c j v n) P
  | 0 => hv
  | n + 1 => by
    have ih := chK_le h hr hj hP hv n
    have q1 := ci_q h hj
    unfold chK
    split
    · split
      · rename_i q
        obtain ⟨b, hb, e⟩ := ih
        have q2 := q.2
        rw [(hr _ _).resolve_right q.1, cq h hj, Int32.zero_add] at q2 ⊢
        rw [e] at q2
        have lt := (nI_ltI (by omega) (by omega)).mp (q2.resolve_left (ne9 (by omega)))
        exact ⟨_, by omega, rfl⟩
      · exact ih
    · exact ih
theorem chK_hit (h : CI c) (hr : ∀ d f, rec d f = 0 ∨ rec d f = -9) {j : Nat} (hj : j < knj c) {v : Int32} (hv : gd v) {k : Nat} (hc : ¬ nI k = aT 24 (kpl c) (nI j) ∧ pOpen c (nI k)) (h0 : rec (sShift c (aT 24 (ksz c) (nI j)) (aT 24 (kpl c) (nI j)) (nI k)) (j + 1) = 0) : ∀ n, k < n → le9 (chK rec c j v n) (qN c j)
  | 0, hk => absurd hk (Nat.not_lt_zero k)
  | n + 1, hk => by
    have q1 := ci_q h hj
    by_cases e : k = n
    · subst e
      have g := chK_gd h hr hj hv k
      unfold chK
      rw [if_pos hc, h0, cq h hj, Int32.zero_add]
      split
      · exact ⟨_, Nat.le_refl _, rfl⟩
      · rename_i q
        rcases g with g | ⟨b, hb, g⟩
        · exact absurd ⟨by decide, Or.inl g⟩ q
        · refine ⟨b, Nat.le_of_not_lt (fun lt => q ⟨by decide, Or.inr ?_⟩), g⟩
          rw [g]
          exact (nI_ltI (by omega) (by omega)).mpr lt
    · have ih := chK_hit h hr hj hv hc h0 n (by omega)
      have up := chK_le h hr hj q1 ih 1
      unfold chK
      split
      · split
        · rename_i q
          obtain ⟨b, hb, e⟩ := ih
          have q2 := q.2
          rw [(hr _ _).resolve_right q.1, cq h hj, Int32.zero_add] at q2 ⊢
          exact ⟨_, Nat.le_refl _, rfl⟩
        · exact ih
      · exact ih
theorem chJ_gd (h : CI c) (hr : ∀ d f, rec d f = 0 ∨ rec d f = -9) : ∀ n, n ≤ knj c → gd (chJ rec c 0 n)
  | 0, _ => Or.inl rfl
  | n + 1, hn => by
    have ih := chJ_gd h hr n (by omega)
    unfold chJ
    rw [if_neg (Nat.not_lt_zero n)]
    split
    · exact ih
    · exact chK_gd h hr hn ih _
theorem chJ_hit (h : CI c) (hr : ∀ d f, rec d f = 0 ∨ rec d f = -9) {j k : Nat} (hj : j < knj c) (h9 : ¬ aT 24 (kpl c) (nI j) = -9) (hk : k < knv c) (hc : ¬ nI k = aT 24 (kpl c) (nI j) ∧ pOpen c (nI k)) (h0 : rec (sShift c (aT 24 (ksz c) (nI j)) (aT 24 (kpl c) (nI j)) (nI k)) (j + 1) = 0) : ∀ n, n ≤ knj c → j < n → le9 (chJ rec c 0 n) (qN c j)
  | 0, _, hn => absurd hn (Nat.not_lt_zero j)
  | n + 1, hn, lt => by
    unfold chJ
    rw [if_neg (Nat.not_lt_zero n)]
    by_cases e : j = n
    · subst e
      rw [if_neg h9]
      exact chK_hit h hr hj (chJ_gd h hr j (by omega)) hc h0 _ hk
    · have ih := chJ_hit h hr hj h9 hk hc h0 n (by omega) (by omega)
      split
      · exact ih
      · exact chK_le h hr hn (ci_q h hj) ih _
theorem few_ok (h : CI c) : (gtN c ≤ tgN c ∧ sFewest c 0 = 0 ∧ sFewest c 1 = 0) ∨ (¬ gtN c ≤ tgN c ∧ ((sFewest c 0 = -9 ∧ sFewest c 1 = -9) ∨ ((sFewest c 0 = 1 ∨ sFewest c 0 = 2) ∧ ¬ sFewest c 1 = -9))) := by
  have t := tg_le h
  have i := ch0_iff h (t := tgN c) (by omega) 0
  have a0 : (¬ (0 : Int32) < 0 ∧ (0 : Int32) ≤ 1) := by decide
  have a1 : (¬ (1 : Int32) < 0 ∧ (1 : Int32) ≤ 1) := by decide
  unfold sFewest
  rw [target_eq h, if_pos a0, if_pos a1]
  by_cases g : gtN c ≤ tgN c
  · rw [i.mpr g]
    exact Or.inl ⟨g, rfl, rfl⟩
  · have e : ch (nI (tgN c)) 0 c 0 = -9 := (ch0_or c _ 0).resolve_left (fun q => g (i.mp q))
    refine Or.inr ⟨g, ?_⟩
    have z : ¬ ¬ (-9 : Int32) = -9 := fun q => q rfl
    rw [e, if_neg z, if_neg z]
    by_cases g1 : ch (nI (tgN c)) 1 c 0 = -9
    · have z1 : ¬ ¬ ch (nI (tgN c)) 1 c 0 = -9 := fun q => q g1
      rw [if_neg z1, if_neg z1]
      by_cases g2 : ch (nI (tgN c)) 2 c 0 = -9
      · have z2 : ¬ ¬ ch (nI (tgN c)) 2 c 0 = -9 := fun q => q g2
        rw [if_neg z2, if_neg z2]
        exact Or.inl ⟨rfl, rfl⟩
      · rw [if_pos g2, if_pos g2]
        exact Or.inr ⟨Or.inr rfl, g2⟩
    · rw [if_pos g1, if_pos g1]
      exact Or.inr ⟨Or.inl rfl, g1⟩
theorem few_hit (h : CI c) (hg : ¬ gtN c ≤ tgN c) {j k : Nat} (hj : j < knj c) (h9 : ¬ pN c j = 9) (hk : k < knv c) (ho : kop c k = 1) (hne : k ≠ pN c j) (hd : gtN (sTake c (nI j) (nI k)) ≤ tgN c) : sFewest c 0 = 1 ∧ ∃ b : Nat, b ≤ qN c j ∧ sFewest c 1 = nI b := by
  have t := tg_le h
  have hn := ci_nj h
  have k6 := ci_v h hk
  have a6 := ci_p6 h hj h9
  have i := ch0_iff h (t := tgN c) (by omega) 0
  have T := tk_CX h hj h9 hk ho hne
  have r0 : ch (nI (tgN c)) 0 (sShift c (aT 24 (ksz c) (nI j)) (aT 24 (kpl c) (nI j)) (nI k)) (j + 1) = 0 := by
    refine (ch0_eq (c := sShift c (aT 24 (ksz c) (nI j)) (aT 24 (kpl c) (nI j)) (nI k)) (d := sTake c (nI j) (nI k)) rfl rfl _ _ 0).trans ?_
    exact (ch0_iff T (by omega) 0).mpr hd
  have L := chJ_hit h (rec := ch (nI (tgN c)) 0) (fun d f => ch0_or d _ f) hj (fun q => h9 ((cp9 h hj).mp q)) hk ⟨fun q => hne ((cpk h hj k6).mp q.symm).symm, (copI k6).mpr ho⟩ r0 (knj c) (Nat.le_refl _) hj
  have ab : su (abN c (tgN c)) (knv c) ≤ 1 := by
    have q := su_chg (f := abN c (tgN c)) (g := fun _ => 0) (j := pN c j) (n := knv c) a6.1 (fun x hx ne => if_pos (by
      have l : loadN (sTake c (nI j) (nI k)) x ≤ gtN (sTake c (nI j) (nI k)) := mxN_ge hx
      have w := tk_load hn hj (k := k) (by omega) x
      rw [if_neg (fun q => ne q.symm)] at w
      omega))
    rw [su_zero (fun _ _ => rfl)] at q
    have : abN c (tgN c) (pN c j) ≤ 1 := by
      unfold abN
      split <;> omega
    omega
  have e1 : ch (nI (tgN c)) 1 c 0 = chJ (ch (nI (tgN c)) 0) c 0 (knj c) := by
    unfold ch
    rw [above_eq h (by omega), if_pos (nI_le ab (by decide))]
  have e : ch (nI (tgN c)) 0 c 0 = -9 := (ch0_or c _ 0).resolve_left (fun q => hg (i.mp q))
  obtain ⟨b, hb, eb⟩ := L
  have q := ci_q h hj
  have n9 : ¬ nI b = -9 := ne9 (by omega)
  have a0 : (¬ (0 : Int32) < 0 ∧ (0 : Int32) ≤ 1) := by decide
  have a1 : (¬ (1 : Int32) < 0 ∧ (1 : Int32) ≤ 1) := by decide
  have z : ¬ ¬ (-9 : Int32) = -9 := fun q => q rfl
  unfold sFewest
  rw [target_eq h, if_pos a0, if_pos a1, e, if_neg z, if_neg z, e1, eb, if_pos n9, if_pos n9]
  exact ⟨rfl, b, hb, rfl⟩
end FW
