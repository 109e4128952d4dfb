/-! ===== the run ===== -/
theorem gRnd_R3 (nv : Nat) (z : MS) : mR3 z (gRnd nv z) := by
  unfold gRnd
  split
  · exact mR3_tr (gOrder_R3 z nv (njo z)) ⟨rfl, rfl, rfl, rfl, rfl⟩
  · exact gOrder_R3 z nv (njo z)
theorem rnF_R3 (nv : Nat) : ∀ n z, mR3 z (rnF nv n z).2
  | 0, z => ⟨rfl, rfl, rfl, rfl, rfl⟩
  | n + 1, z => by
    unfold rnF
    split
    · exact mR3_tr (gRnd_R3 nv z) (rnF_R3 nv n _)
    · exact ⟨rfl, rfl, rfl, rfl, rfl⟩
theorem rnF_le (nv : Nat) : ∀ n z, (rnF nv n z).1 ≤ n
  | 0, z => Nat.le_refl _
  | n + 1, z => by
    unfold rnF
    split
    · have h := rnF_le nv n (gRnd nv z)
      show (rnF nv n (gRnd nv z)).1 + 1 ≤ n + 1
      omega
    · exact Nat.zero_le _
theorem bt_end {S : Nat → Int32} {k : Nat} {y : PS} {o : Int32} {c : CS} {x : SS} (B : Bt S y) : rr 0 k o c x y = (o, c) := by
  have n : ¬ pInOrd y := fun q => by
    have e := B.2
    rw [rd0_id q.2] at e
    exact q.1 e
  unfold rr roF
  rw [if_neg (show ¬ pInOrd (zy (o, (c, (x, y)))) from n)]
theorem run_up {S : Nat → Int32} : ∀ F (z : MS) (c : CS) (x : SS) (y : PS) (o : Int32) (nv : Nat), knv c = nv → mT z → (∀ j, j < kMtyped z → S j = kMtext z j) → kMfail z = -9 → Bt S y → R2 c (kMs z) → (kMat z = kMtyped z ∨ ¬ kMtext z (kMat z) = 32) → kMtyped z - kMat z ≤ F → (∃ q : Nat, q ≤ 100 ∧ kMfail (rnF nv F z).2 = nI q ∧ (rr (kMtyped z - kMat z) (kMat z) o c x y).1 = -1000 - nI q) ∨ (kMfail (rnF nv F z).2 = -9 ∧ (rr (kMtyped z - kMat z) (kMat z) o c x y).1 = o + nI (rnF nv F z).1 ∧ R2 (rr (kMtyped z - kMat z) (kMat z) o c x y).2 (kMs (rnF nv F z).2)) := by
  intro F
  induction F with
  | zero =>
    intro z c x y o nv env hT hS hf B h h0 hF
    have e0 : kMtyped z - kMat z = 0 := by omega
    right
    rw [e0, bt_end B]
    exact ⟨hf, (Int32.add_zero o).symm, h⟩
  | succ F ih =>
    intro z c x y o nv env hT hS hf B h h0 hF
    have h1 := hT.1
    by_cases en : kMat z = kMtyped z
    · have e0 : kMtyped z - kMat z = 0 := by omega
      have np : ¬ pOn z := fun q => q.1 ((look_c hT).mpr (by omega))
      right
      rw [rn_no np, e0, bt_end B]
      exact ⟨hf, (Int32.add_zero o).symm, h⟩
    · have lt : kMat z < kMtyped z := Nat.lt_of_le_of_ne h1 en
      have po : pOn z := ⟨fun q => Nat.not_le.mpr lt ((look_c hT).mp q), hf⟩
      have enj : njo z = knj c := mV_njo h.2.2.1
      have W := order_up (o := o) (x := x) hT hS hf lt (h0.resolve_left en) B h
      rw [env] at W
      have h100 := hT.2
      have R3 := gOrder_R3 z nv (knj c)
      have hTo : mT (gOrder z nv (knj c)) := gOrder_mT nv (knj c) hT
      have hAt : kMfail (gOrder z nv (knj c)) = -9 → kMat z + 1 ≤ kMat (gOrder z nv (knj c)) := gOrder_at hT
      have eR : gRnd nv z = if kMfail (gOrder z nv (knj c)) = -9 then gSkip (gOrder z nv (knj c)) else gOrder z nv (knj c) := by
        unfold gRnd
        rw [enj]
      unfold rnF
      rw [if_pos po]
      generalize gOrder z nv (knj c) = w at W R3 hTo hAt eR
      generalize gRnd nv z = g at eR ⊢
      have ty : kMtyped w = kMtyped z := R3.2.2.2.2
      have tx : kMtext w = kMtext z := R3.2.2.2.1
      rcases W with ⟨q, q1, q2, q3⟩ | ⟨fA, c', x', y', B', h', ev, e⟩
      · have nf : ¬ kMfail w = -9 := by
          rw [q2]
          exact nI_ne9 (ar_q q1)
        rw [if_neg nf] at eR
        subst eR
        have np : ¬ pOn g := fun v => nf v.2
        left
        rw [rn_no np]
        exact ⟨q, q1, q2, q3⟩
      · rw [if_pos fA] at eR
        subst eR
        have at1 := hAt fA
        have hTo1 := hTo.1
        have hsk := sk_le w
        have esk : skN (kMtext w) (kMtyped w - kMat w) (kMat w) = sk w := rfl
        obtain ⟨y2, B2, e3⟩ := skip_bt (o := o + 1) (c := c') (x := x') (T := kMtext w) (kMtyped w - kMat w) (kMat w) y' B' (fun j hj => by rw [tx]; exact hS j (by rw [← ty]; exact ar_j hTo1 hj)) (ar_l hTo1 hTo.2)
        rw [esk] at e3
        have hT2 : mT (gSkip w) := mT_skip hTo
        have IH := ih (gSkip w) c' x' y2 (o + 1) nv ev hT2 (fun j hj => by
          show S j = kMtext w j
          rw [tx]
          have l : j < kMtyped w := hj
          exact hS j (by rw [← ty]; exact l)) fA B2 h' (by
          show kMat w + sk w = kMtyped w ∨ ¬ kMtext w (kMat w + sk w) = 32
          by_cases v : sk w < kMtyped w - kMat w
          · right
            exact skN_end _ _ _ v
          · left
            omega) (by
          show kMtyped w - (kMat w + sk w) ≤ F
          omega)
        have e4 : rr (kMtyped z - kMat z) (kMat z) o c x y = rr (kMtyped (gSkip w) - kMat (gSkip w)) (kMat (gSkip w)) (o + 1) c' x' y2 := by
          rw [e, ← ty, e3]
          show rr (kMtyped w - kMat w - sk w) _ _ _ _ _ = rr (kMtyped w - (kMat w + sk w)) _ _ _ _ _
          rw [Nat.sub_sub]
        rw [e4]
        rcases IH with v | ⟨w1, w2, w3⟩
        · exact Or.inl v
        · refine Or.inr ⟨w1, ?_, w3⟩
          rw [w2]
          show o + 1 + nI (rnF nv F (gSkip w)).1 = o + nI ((rnF nv F (gSkip w)).1 + 1)
          rw [nI_succ, Int32.add_assoc, Int32.add_comm 1]
/-! what a run leaves of the class's text -/
theorem sBegin_sg (y : PS) (d : Int32) : kPsigns (sBegin y d) = kPsigns y := by unfold sBegin; split <;> rfl
theorem sDig_sg (y : PS) (d : Int32) : kPsigns (sDig y d) = kPsigns y := by
  unfold sDig
  split
  · exact sBegin_sg y d
  · split <;> rfl
theorem sRead_sg (y : PS) (k : Int32) : kPsigns (sRead y k) = kPsigns y := by
  refine Eq.trans ?_ (rd0_sg y)
  unfold sRead sRd
  split
  · rfl
  split
  · unfold sLet
    split <;> rfl
  split
  · split <;> rfl
  · split
    · exact sDig_sg _ _
    · rfl
theorem rStep_y (z : RS) (k : Nat) : zy (rStep z k) = sRead (zy z) (nI k) := by
  unfold rStep
  split <;> rfl
theorem roF_y : ∀ n k (z : RS), kPsigns (zy (roF n k z)) = kPsigns (zy z) ∧ kPlen (zy (roF n k z)) = kPlen (zy z)
  | 0, k, z => ⟨rfl, rfl⟩
  | n + 1, k, z => by
    have ih := roF_y n (k + 1) (rStep z k)
    rw [rStep_y, sRead_sg, sRead_len] at ih
    rw [roF_s n k]
    split
    · split
      · exact ih
      · split
        · exact ⟨sRead_sg _ _, sRead_len _ _⟩
        · exact ih
    · exact ⟨sRead_sg _ _, sRead_len _ _⟩
theorem orders_y (c : CS) (x : SS) (y : PS) : kPsigns (zy (fOrders c x y)) = kPsigns y ∧ kPlen (zy (fOrders c x y)) = kPlen y := roF_y (kPlen y) 0 (z0 c x y)
theorem neg_th {q : Nat} (q1 : q ≤ 100) : (-1000 - nI q : Int32) < 0 := by
  have e0 : (-1000 : Int32).toInt = -1000 := by decide
  have eq : (nI q).toInt = (q : Int) := nI_toInt (by omega)
  have e3 : (-1000 - nI q : Int32).toInt = -1000 - (q : Int) := by
    rw [fb_subI (by rw [e0, eq]; omega) (by rw [e0, eq]; omega), e0, eq]
  rw [Int32.lt_iff_toInt_lt, e3, show (0 : Int32).toInt = 0 from by decide]
  omega
theorem run_eq {c : CS} {z : MS} {y : PS} (h : R2 c (kMs z)) (x : SS) (ht : kMtyped z ≤ 100) (hl : kPlen y = kMtyped z) (hS : ∀ i, i < kMtyped z → kPsigns y i = kMtext z i) : zo (fOrders c x y) = (gRun z (knv c)).1 ∧ ((zo (fOrders c x y) < 0 ∧ kMs (gRun z (knv c)).2 = kMs z ∧ kMpast (gRun z (knv c)).2 = kMpast z ∧ kMkept (gRun z (knv c)).2 = kMkept z ∧ kMtext (gRun z (knv c)).2 = kMtext z ∧ kMtyped (gRun z (knv c)).2 = kMtyped z) ∨ (¬ zo (fOrders c x y) < 0 ∧ ∃ E : MS, (gRun z (knv c)).2 = gActed (uMtyped E 0) (zo (fOrders c x y)) ∧ kMbef E = kMs z ∧ kMpast E = kMpast z ∧ kMkept E = kMkept z ∧ R2 (zc (fOrders c x y)) (kMs E))) := by
  have hT0 : mT (zR z) := ⟨Nat.zero_le _, ht⟩
  have B0 : Bt (kPsigns y) (sStartR y) := ⟨rfl, by rw [rd0_id (show kPior (sStartR y) = 0 from rfl)]; rfl⟩
  have esk : skN (kMtext (zR z)) (kMtyped (zR z) - 0) 0 = sk (zR z) := rfl
  have hsk : sk (zR z) ≤ kMtyped z - 0 := sk_le (zR z)
  obtain ⟨y1, B1, e1⟩ := skip_bt (o := 0) (c := c) (x := x) (T := kMtext z) (kMtyped z - 0) 0 (sStartR y) B0 (fun j hj => hS j (by omega)) (by omega)
  have hT1 : mT (zS z) := mT_skip hT0
  have U := run_up (S := kPsigns y) (kMtyped z) (zS z) c x y1 0 (knv c) rfl hT1 hS rfl B1 h (by
    show 0 + sk (zR z) = kMtyped z ∨ ¬ kMtext z (0 + sk (zR z)) = 32
    by_cases w : sk (zR z) < kMtyped z - 0
    · right
      exact skN_end (kMtext z) (kMtyped z - 0) 0 w
    · left
      omega) (by
    show kMtyped z - (0 + sk (zR z)) ≤ kMtyped z
    omega)
  have e2 : rr (kPlen y) 0 0 c x (sStartR y) = rr (kMtyped (zS z) - kMat (zS z)) (kMat (zS z)) 0 c x y1 := by
    rw [hl]
    refine Eq.trans e1 ?_
    show rr (kMtyped z - 0 - sk (zR z)) (0 + sk (zR z)) 0 c x y1 = rr (kMtyped z - (0 + sk (zR z))) (0 + sk (zR z)) 0 c x y1
    rw [Nat.sub_sub]
  have z1 : zo (fOrders c x y) = (rr (kPlen y) 0 0 c x (sStartR y)).1 := rfl
  have z2 : zc (fOrders c x y) = (rr (kPlen y) 0 0 c x (sStartR y)).2 := rfl
  have R3 : mR3 (zS z) (rnF (knv c) (kMtyped z) (zS z)).2 := rnF_R3 (knv c) (kMtyped z) (zS z)
  have N := rnF_le (knv c) (kMtyped z) (zS z)
  rw [z1, z2, e2]
  unfold gRun zE
  generalize rr (kMtyped (zS z) - kMat (zS z)) (kMat (zS z)) 0 c x y1 = rz at U ⊢
  generalize rnF (knv c) (kMtyped z) (zS z) = E at U R3 N ⊢
  have bE : kMbef E.2 = kMs z := R3.2.1
  rcases U with ⟨q, q1, q2, q3⟩ | ⟨w1, w2, w3⟩
  · have nf : ¬ kMfail E.2 = -9 := fun w => nI_ne9 (ar_q q1) (q2.symm.trans w)
    rw [if_neg nf, q3, q2]
    exact ⟨rfl, Or.inl ⟨neg_th q1, bE, R3.1, R3.2.2.1, R3.2.2.2.1, R3.2.2.2.2⟩⟩
  · have w2' : rz.1 = nI E.1 := by rw [w2, Int32.zero_add]
    rw [if_pos w1, w2']
    exact ⟨rfl, Or.inr ⟨nI_pos (Nat.lt_of_le_of_lt (Nat.le_trans N ht) (by decide)), E.2, rfl, bE, R3.1, R3.2.2.1, w3⟩⟩
