/-! ===== orders and runs ===== -/
theorem f_U (X : MS) (v : Int32) : kMfail (uMfail X v) = v := rfl
theorem s_U (X : MS) (v : Int32) : kMs (uMfail X v) = kMs X := rfl
theorem a_U (X : MS) (v : Int32) : kMat (uMfail X v) = kMat X := rfl
theorem or_same {n i : Nat} {z : MS} (h : ¬ kMfail z = -9) : orA n i z = z := by
  cases n with
  | zero => rfl
  | succ n => unfold orA; rw [if_neg h]
theorem rr_semi {S N : Nat → Int32} {L p : Int32} {b d k n : Nat} {y : PS} {o : Int32} {c : CS} {x : SS} (B : Io S L p b d N y) (hL : ¬ L = 0) (hk : k < 100) (hs : S k = 59) (eb : nI b = numOf L) : rr (n + 1) k o c x y = if (fCall c x (uPior y 1)).1 < 0 then (-1000 - p, (fCall c x (uPior y 1)).2.1) else rr n (k + 1) (o + 1) (fCall c x (uPior y 1)).2.1 (fCall c x (uPior y 1)).2.2 (uPior y 1) := by
  have sm := io_semi B hL hk hs
  have er := sm.2 eb
  have nir : ¬ kPior (sRead y (nI k)) = 0 := by
    rw [er]
    show ¬ (1 : Int32) = 0
    decide
  have r5 := rr_call (n := n) (o := o) (c := c) (x := x) (sm.1.mpr eb) nir
  rw [er] at r5
  have lp : kPlp (uPior y 1) = p := B.2.2.2.1
  rw [lp] at r5
  exact r5
theorem ar_s {a b : Nat} (h : b < a) : a - b = (a - (b + 1)) + 1 := by omega
theorem ar_j {t a j : Nat} (h : a ≤ t) (hj : j < t - a + a) : j < t := by omega
theorem ar_l {t a n : Nat} (h : a ≤ t) (g : t ≤ n) : t - a + a ≤ n := by omega
theorem ar_p {t a m : Nat} (h : a ≤ t) (g : m ≤ t - a) : a + m ≤ t := by omega
theorem ar_z {t a : Nat} (h : ¬ t - a = 0) : a < t := by omega
theorem ar_m {t a m : Nat} (h : a + m < t) : m < t - a := by omega
theorem ar_q {q : Nat} (h : q ≤ 100) : q < 2 ^ 31 := by omega
section TXT3
variable {S : Nat → Int32} {L p : Int32} {o : Int32} {c : CS} {x : SS}
theorem ora_up {many : Nat} (hL : ¬ L = 0) (hm : numOf L = nI many) (hm3 : many ≤ 3) : ∀ n i d (z : MS) (y : PS), i + n = many → mT z → (∀ j, j < kMtyped z → S j = kMtext z j) → kMfail z = -9 → Io S L p i d (kMnums z) y → (i = 0 ∧ d = 0 ∨ 0 < i ∧ 0 < d ∧ ¬ pIn (rLook z) 48 57) → (∃ q : Nat, q ≤ 100 ∧ kMfail (orA n i z) = nI q ∧ (rr (kMtyped z - kMat z) (kMat z) o c x y).1 = -1000 - nI q) ∨ (kMfail (orA n i z) = -9 ∧ ∃ y' d', Io S L p many d' (kMnums (orA n i z)) y' ∧ (d' = 0 ∨ ¬ pIn (rLook (orA n i z)) 48 57) ∧ rr (kMtyped z - kMat z) (kMat z) o c x y = rr (kMtyped z - kMat (orA n i z)) (kMat (orA n i z)) o c x y')
  | 0, i, d, z, y, e, hT, hS, hf, B, hd => by
    right
    refine ⟨hf, y, d, ?_, ?_, rfl⟩
    · rw [show many = i from by omega]
      exact B
    · rcases hd with q | q
      · exact Or.inl q.2
      · exact Or.inr q.2.2
  | n + 1, i, d, z, y, e, hT, hS, hf, B, hd => by
    have h1 := hT.1
    have h100 := hT.2
    have hsk := sk_le z
    have esk : sk z = skN (kMtext z) (kMtyped z - kMat z) (kMat z) := rfl
    have hnb : ¬ nI i = numOf L := fun q => by
      rw [hm] at q
      have := (nI_eq (by omega) (by omega)).mp q
      omega
    have hlt : nI i < numOf L := by
      rw [hm]
      exact nI_lt (by omega) (by omega)
    unfold orA
    rw [if_pos hf]
    by_cases g : 0 < i ∧ sk z = 0
    · rw [if_pos g]
      left
      refine ⟨kMat z + sk z, by omega, rfl, ?_⟩
      rw [g.2, Nat.add_zero]
      refine io_bad B hL (by omega) ?_
      by_cases en : kMtyped z - kMat z = 0
      · exact Or.inl en
      · right
        have lt : kMat z < kMtyped z := by omega
        have l32 := skN_end (kMtext z) (kMtyped z - kMat z) (kMat z) (by omega)
        rw [← esk, g.2, Nat.add_zero] at l32
        rw [hS _ lt]
        refine ⟨l32, fun _ => hnb, fun q => ?_⟩
        rcases hd with w | w
        · omega
        · rw [look_at hT lt] at w
          exact absurd q w.2.2
    · rw [if_neg g]
      have hT1 : mT (gSkip z) := mT_skip hT
      obtain ⟨y1, B1, e1⟩ := skip_io (o := o) (c := c) (x := x) (T := kMtext z) (kMtyped z - kMat z) (kMat z) d y B (fun j hj => hS j (by omega)) (by omega)
      have d0 : (if skN (kMtext z) (kMtyped z - kMat z) (kMat z) = 0 then d else 0) = 0 := by
        by_cases w : skN (kMtext z) (kMtyped z - kMat z) (kMat z) = 0
        · rw [if_pos w]
          rcases hd with v | v
          · exact v.2
          · exact absurd ⟨v.1, w⟩ g
        · rw [if_neg w]
      rw [d0] at B1
      rw [← esk] at e1
      have hS1 : ∀ j, j < kMtyped (gSkip z) → S j = kMtext (gSkip z) j := hS
      obtain ⟨y2, D, a2, a3, a4, a5, a6⟩ := dig_up (o := o) (c := c) (x := x) (z := gSkip z) (N := kMnums z) (b := i) hT1 hS1 hL hlt (by omega) 4 0 y1 rfl hT1.1 (show Dg S L p i 0 (kMnums z) (gSkip z) y1 from B1)
      have e2 : rr (kMtyped z - kMat z) (kMat z) o c x y = rr (kMtyped z - (kMat z + sk z + rd4 (gSkip z))) (kMat z + sk z + rd4 (gSkip z)) o c x y2 := by
        rw [e1, show kMtyped z - kMat z - sk z = kMtyped z - (kMat z + sk z) from by omega]
        exact a6
      have ar : kMat z + sk z + rd4 (gSkip z) ≤ kMtyped z := a2
      have a4' : rd4 (gSkip z) ≤ 4 := a4
      have a5' : ¬ pR (gSkip z) (rd4 (gSkip z)) ∨ rd4 (gSkip z) = 4 := a5
      have D' : Dg S L p i (rd4 (gSkip z)) (kMnums z) (gSkip z) y2 := D
      by_cases F : nI (kMat z + sk z + rd4 (gSkip z)) = nI (kMat z + sk z) ∨ pIn (rLook (uMat (gSkip z) (kMat z + sk z + rd4 (gSkip z)))) 48 57
      · have ef : kMfail (gRead (gSkip z) i) = nI (kMat z + sk z + rd4 (gSkip z)) := if_pos F
        have nf : ¬ kMfail (gRead (gSkip z) i) = -9 := by
          rw [ef]
          exact nI_ne9 (by omega)
        rw [or_same nf]
        left
        refine ⟨kMat z + sk z + rd4 (gSkip z), by omega, ef, ?_⟩
        rw [e2]
        by_cases r0 : rd4 (gSkip z) = 0
        · rw [r0] at D' a5' ⊢
          have B2 : Io S L p i 0 (kMnums z) y2 := D'
          rw [Nat.add_zero]
          refine io_bad B2 hL (by omega) ?_
          by_cases en : kMtyped z - (kMat z + sk z) = 0
          · exact Or.inl en
          · right
            have lt : kMat z + sk z < kMtyped z := by omega
            have l32 := skN_end (kMtext z) (kMtyped z - kMat z) (kMat z) (by omega)
            rw [← esk] at l32
            rw [hS _ lt]
            refine ⟨l32, fun _ => hnb, fun q => ?_⟩
            have la : rLook (uMat (gSkip z) (kMat z + sk z + 0)) = kMtext z (kMat z + sk z) := look_at (z := gSkip z) hT1 lt
            rcases a5' with w | w
            · exact absurd (show pR (gSkip z) 0 from ⟨by
                show pIn (rLook (uMat (gSkip z) (kMat z + sk z + 0))) 48 57
                rw [la]
                exact q, Or.inl rfl⟩) w
            · exact absurd w (by decide)
        · have hn1 : ¬ nI (kMat z + sk z + rd4 (gSkip z)) = nI (kMat z + sk z) := fun q => by
            have := (nI_eq (by omega) (by omega)).mp q
            omega
          have dg := F.resolve_left hn1
          have li := look_in (z := uMat (gSkip z) (kMat z + sk z + rd4 (gSkip z))) (mT_at ar hT1) (pin_look dg)
          have lt : kMat z + sk z + rd4 (gSkip z) < kMtyped z := li.1
          have B2 : Io S L p (i + 1) (rd4 (gSkip z)) (upd (kMnums z) i (rdV (gSkip z) (rd4 (gSkip z)))) y2 := by
            unfold Dg at D'
            rwa [if_neg r0] at D'
          have sd : pIn (S (kMat z + sk z + rd4 (gSkip z))) 48 57 := by
            rw [hS _ lt]
            have l2 : rLook (uMat (gSkip z) (kMat z + sk z + rd4 (gSkip z))) = kMtext z (kMat z + sk z + rd4 (gSkip z)) := li.2
            rw [← l2]
            exact dg
          refine io_bad B2 hL (by omega) (Or.inr ⟨fun q => sd.1 (by rw [q]; decide), fun q => absurd sd.2 (fun r => r (by rw [q]; decide)), fun _ pd => ?_⟩)
          have dne : ¬ kPdigits y2 = 0 := by
            rw [B2.2.2.2.2.2.1]
            exact nI_ne0 (by omega) (by omega)
          unfold pDig at pd
          rw [if_neg dne] at pd
          have ev : aT 3 (kPnums y2) (kPbegun y2 - 1) = rdV (gSkip z) (rd4 (gSkip z)) := by
            rw [B2.2.2.2.2.1, nI_pred, aT_nI (by omega) (by decide), B2.2.2.2.2.2.2 i (by omega)]
            exact pk_us
          rcases a5' with w | w
          · refine w ⟨dg, Or.inr ?_⟩
            rw [← ev]
            exact pd.2
          · refine pd.1 ?_
            rw [B2.2.2.2.2.2.1, w]
            exact Int32.le_refl _
      · have ef : kMfail (gRead (gSkip z) i) = -9 := (if_neg F).trans hf
        have r0 : ¬ rd4 (gSkip z) = 0 := fun q => F (Or.inl (by rw [q, Nat.add_zero]))
        have B2 : Io S L p (i + 1) (rd4 (gSkip z)) (upd (kMnums z) i (rdV (gSkip z) (rd4 (gSkip z)))) y2 := by
          unfold Dg at D'
          rwa [if_neg r0] at D'
        have IH := ora_up hL hm hm3 n (i + 1) (rd4 (gSkip z)) (gRead (gSkip z) i) y2 (by omega) (mT_read hT1 i) hS ef B2 (Or.inr ⟨by omega, by omega, fun q => F (Or.inr q)⟩)
        rw [e2]
        exact IH
theorem num_L (h : ¬ numOf L = 0) : ¬ L = 0 := fun e => h (by rw [e]; decide)
theorem does_eq {w : MS} (h : R2 c (kMs w)) (x : SS) {y : PS} (el : kPletter y = L) (hL : ¬ numOf L = 0) (hn : ∀ i, i < (numOf L).toNatClampNeg → kPnums y i = kMnums w i) : (fCall c x y).1 = (gDoes w (knv c) (knj c) L).1 ∧ R2 (fCall c x y).2.1 (kMs (gDoes w (knv c) (knj c) L).2) := by
  have a : ∀ i : Nat, i < 3 → i < (numOf L).toNatClampNeg → aT 3 (kPnums y) (nI i) = kMnums w i := fun i h3 hi => (aT_nI h3 (by decide) _).trans (hn i hi)
  unfold fCall gDoes
  rw [el]
  by_cases c1 : L = 102
  · subst c1
    have a0 : ar0 y = kMnums w 0 := a 0 (by decide) (by decide)
    rw [a0, if_pos rfl, if_pos rfl]
    exact end_eq h _
  · rw [if_neg c1, if_neg c1]
    by_cases c2 : L = 106
    · subst c2
      have a0 : ar0 y = kMnums w 0 := a 0 (by decide) (by decide)
      have a1 : ar1 y = kMnums w 1 := a 1 (by decide) (by decide)
      have a2 : ar2 y = kMnums w 2 := a 2 (by decide) (by decide)
      rw [a0, a1, a2, if_pos rfl, if_pos rfl]
      exact add_eq h _ _ _
    · rw [if_neg c2, if_neg c2]
      by_cases c3 : L = 109
      · subst c3
        have a0 : ar0 y = kMnums w 0 := a 0 (by decide) (by decide)
        have a1 : ar1 y = kMnums w 1 := a 1 (by decide) (by decide)
        rw [a0, a1, if_pos rfl, if_pos rfl]
        exact move_eq h _ _
      · rw [if_neg c3, if_neg c3]
        by_cases c4 : L = 112
        · subst c4
          have a0 : ar0 y = kMnums w 0 := a 0 (by decide) (by decide)
          rw [a0, if_pos rfl, if_neg (by decide), if_neg (by decide)]
          exact walk_eq h x _
        · rw [if_neg c4]
          by_cases c5 : L = 114
          · subst c5
            have a0 : ar0 y = kMnums w 0 := a 0 (by decide) (by decide)
            have a1 : ar1 y = kMnums w 1 := a 1 (by decide) (by decide)
            have a2 : ar2 y = kMnums w 2 := a 2 (by decide) (by decide)
            rw [a0, a1, a2, if_pos rfl, if_pos rfl]
            exact ring_eq h _ _ _
          · rw [if_neg c5, if_neg c5]
            by_cases c6 : L = 120
            · subst c6
              have a0 : ar0 y = kMnums w 0 := a 0 (by decide) (by decide)
              have a1 : ar1 y = kMnums w 1 := a 1 (by decide) (by decide)
              rw [a0, a1, if_pos rfl, if_pos rfl]
              exact exch_eq h _ _
            · exact absurd (by unfold numOf; rw [if_neg c1, if_neg c2, if_neg c3, if_neg c4, if_neg c5, if_neg c6]) hL
theorem order_up {z : MS} {y : PS} (hT : mT z) (hS : ∀ j, j < kMtyped z → S j = kMtext z j) (hf : kMfail z = -9) (lt : kMat z < kMtyped z) (h32 : ¬ kMtext z (kMat z) = 32) (B : Bt S y) (h : R2 c (kMs z)) : (∃ q : Nat, q ≤ 100 ∧ kMfail (gOrder z (knv c) (knj c)) = nI q ∧ (rr (kMtyped z - kMat z) (kMat z) o c x y).1 = -1000 - nI q) ∨ (kMfail (gOrder z (knv c) (knj c)) = -9 ∧ ∃ c' x' y', Bt S y' ∧ R2 c' (kMs (gOrder z (knv c) (knj c))) ∧ knv c' = knv c ∧ rr (kMtyped z - kMat z) (kMat z) o c x y = rr (kMtyped z - kMat (gOrder z (knv c) (knj c))) (kMat (gOrder z (knv c) (knj c))) (o + 1) c' x' y') := by
  have h100 := hT.2
  have at100 : kMat z < 100 := Nat.lt_of_lt_of_le lt h100
  have lk : rLook z = kMtext z (kMat z) := look_at hT lt
  have sk0 : S (kMat z) = rLook z := (hS _ lt).trans lk.symm
  have s32 : ¬ S (kMat z) = 32 := by rw [hS _ lt]; exact h32
  have bl := bt_let (N := kMnums z) (k := kMat z) B at100 s32
  rw [sk0] at bl
  unfold gOrder
  by_cases nL : numOf (rLook z) = 0
  · rw [if_pos nL]
    left
    refine ⟨kMat z, Nat.le_of_lt at100, f_U _ _, ?_⟩
    rw [ar_s lt]
    exact rr_no (fun q => bl.1.mp q nL)
  · rw [if_neg nL]
    obtain ⟨ir, B1⟩ := bl.2 nL
    have hL0 := num_L nL
    have nn := num_nI (rLook z)
    have e1 : rr (kMtyped z - kMat z) (kMat z) o c x y = rr (kMtyped z - (kMat z + 1)) (kMat z + 1) o c x (sRead y (nI (kMat z))) := by
      rw [ar_s lt, rr_go (bl.1.mpr nL) ir]
    have R3 := zA_R3 z
    have hTo : mT (oS z) := mT_oS hT nL
    have hTA : mT (zA z) := mT_zA hT nL
    have ty : kMtyped (zA z) = kMtyped z := R3.2.2.2.2
    have tx : kMtext (zA z) = kMtext z := R3.2.2.2.1
    have O : (∃ q : Nat, q ≤ 100 ∧ kMfail (zA z) = nI q ∧ (rr (kMtyped z - (kMat z + 1)) (kMat z + 1) o c x (sRead y (nI (kMat z)))).1 = -1000 - nI q) ∨ (kMfail (zA z) = -9 ∧ ∃ y' d', Io S (rLook z) (nI (kMat z)) (oN z) d' (kMnums (zA z)) y' ∧ (d' = 0 ∨ ¬ pIn (rLook (zA z)) 48 57) ∧ rr (kMtyped z - (kMat z + 1)) (kMat z + 1) o c x (sRead y (nI (kMat z))) = rr (kMtyped z - kMat (zA z)) (kMat (zA z)) o c x y') := ora_up hL0 nn.2 nn.1 (oN z) 0 0 (oS z) (sRead y (nI (kMat z))) (Nat.zero_add _) hTo hS hf B1 (Or.inl ⟨rfl, rfl⟩)
    rcases O with ⟨q, q1, q2, q3⟩ | ⟨fA, y', d', I, dd, e2⟩
    · have nf : ¬ kMfail (zA z) = -9 := fun w => nI_ne9 (ar_q q1) (q2.symm.trans w)
      rw [if_neg nf]
      left
      exact ⟨q, q1, q2, by rw [e1]; exact q3⟩
    · rw [if_pos fA]
      have a1 : kMat (zA z) ≤ kMtyped (zA z) := hTA.1
      have t100 : kMtyped (zA z) ≤ 100 := hTA.2
      have hskA : sk (zA z) ≤ kMtyped (zA z) - kMat (zA z) := sk_le (zA z)
      obtain ⟨y2, I2, e3⟩ := skip_io (o := o) (c := c) (x := x) (T := kMtext (zA z)) (kMtyped (zA z) - kMat (zA z)) (kMat (zA z)) d' y' I (fun j hj => by rw [tx]; exact hS j (by rw [← ty]; exact ar_j a1 hj)) (ar_l a1 t100)
      have esk : skN (kMtext (zA z)) (kMtyped (zA z) - kMat (zA z)) (kMat (zA z)) = sk (zA z) := rfl
      rw [esk] at I2 e3
      have e4 : rr (kMtyped z - kMat z) (kMat z) o c x y = rr (kMtyped z - (kMat (zA z) + sk (zA z))) (kMat (zA z) + sk (zA z)) o c x y2 := by
        rw [e1, e2, ← ty, e3, Nat.sub_sub]
      have hTs : mT (gSkip (zA z)) := mT_skip hTA
      have as100 : kMat (zA z) + sk (zA z) ≤ 100 := Nat.le_trans (ar_p a1 hskA) t100
      by_cases s59 : rLook (gSkip (zA z)) = 59
      · rw [if_pos s59]
        have li := look_in hTs (by rw [s59]; decide)
        have lt3 : kMat (zA z) + sk (zA z) < kMtyped (zA z) := li.1
        have lt2 : kMat (zA z) + sk (zA z) < kMtyped z := by rw [← ty]; exact lt3
        have ss : S (kMat (zA z) + sk (zA z)) = 59 := by
          rw [hS _ lt2, ← tx]
          exact li.2.symm.trans s59
        have eb : nI (oN z) = numOf (rLook z) := nn.2.symm
        have sA : kMs (zA z) = kMs z := s_zA z
        have hw : R2 c (kMs (uMat (zA z) (kMat (zA z) + sk (zA z) + 1))) := by
          show R2 c (kMs (zA z))
          rw [sA]
          exact h
        have DE := does_eq (L := rLook z) hw x (y := uPior y2 1) I2.2.1 nL (fun i hi => I2.2.2.2.2.2.2 i hi)
        have rst := gDoes_rest (uMat (zA z) (kMat (zA z) + sk (zA z) + 1)) (knv c) (knj c) (rLook z)
        have r5 := rr_semi (n := kMtyped z - (kMat (zA z) + sk (zA z) + 1)) (o := o) (c := c) (x := x) I2 hL0 (Nat.lt_of_lt_of_le lt2 h100) ss eb
        rw [← ar_s lt2] at r5
        have e5 := e4.trans r5
        have nv0 := fCall_nv c x (uPior y2 1)
        clear r5
        generalize fCall c x (uPior y2 1) = Z at DE e5 nv0
        have ea : kMat (oD z (knv c) (knj c)).2 = kMat (zA z) + sk (zA z) + 1 := rst.2.2.2.2.2.1
        have nvZ : knv Z.2.1 = knv c := nv0
        by_cases neg : (oD z (knv c) (knj c)).1 < 0
        · left
          have ng : Z.1 < 0 := by rw [DE.1]; exact neg
          rw [if_pos ng] at e5
          refine ⟨kMat z, Nat.le_of_lt at100, ?_, ?_⟩
          · rw [f_U, if_pos neg]
          · rw [e5]
        · right
          have ng : ¬ Z.1 < 0 := by rw [DE.1]; exact neg
          rw [if_neg ng] at e5
          refine ⟨?_, Z.2.1, Z.2.2, uPior y2 1, ⟨I2.1, rfl⟩, ?_, nvZ, ?_⟩
          · rw [f_U, if_neg neg]
          · rw [s_U]
            exact DE.2
          · rw [a_U, ea]
            exact e5
      · rw [if_neg s59]
        left
        refine ⟨kMat (zA z) + sk (zA z), as100, f_U _ _, ?_⟩
        rw [e4]
        refine io_bad I2 hL0 (ar_l (by rw [← ty]; exact ar_p a1 hskA) h100) ?_
        by_cases e0 : kMtyped z - (kMat (zA z) + sk (zA z)) = 0
        · exact Or.inl e0
        · right
          have lt2 : kMat (zA z) + sk (zA z) < kMtyped z := ar_z e0
          have lt3 : kMat (zA z) + sk (zA z) < kMtyped (zA z) := by rw [ty]; exact lt2
          have la : rLook (gSkip (zA z)) = kMtext (zA z) (kMat (zA z) + sk (zA z)) := look_at hTs lt3
          have l32 := skN_end (kMtext (zA z)) (kMtyped (zA z) - kMat (zA z)) (kMat (zA z)) (ar_m lt3)
          rw [esk] at l32
          have o31 : oN z < 2 ^ 31 := Nat.lt_of_le_of_lt nn.1 (by decide)
          have pbn : ¬ nI (oN z) < nI (oN z) := Int32.lt_irrefl
          rw [hS _ lt2, ← tx]
          refine ⟨l32, fun q => absurd (la.trans q) s59, fun q pd => ?_⟩
          by_cases k0 : sk (zA z) = 0
          · rw [if_pos k0] at I2
            rw [k0, Nat.add_zero] at la q lt3
            have la2 : rLook (zA z) = kMtext (zA z) (kMat (zA z)) := look_at hTA lt3
            rcases dd with w | w
            · rw [w] at I2
              unfold pDig at pd
              rw [if_pos (show kPdigits y2 = 0 from I2.2.2.2.2.2.1)] at pd
              have pb : kPbegun y2 < numOf (kPletter y2) := pd
              rw [I2.2.2.2.2.1, I2.2.1, nn.2] at pb
              exact pbn pb
            · rw [la2] at w
              exact w q
          · rw [if_neg k0] at I2
            unfold pDig at pd
            rw [if_pos (show kPdigits y2 = 0 from I2.2.2.2.2.2.1)] at pd
            have pb : kPbegun y2 < numOf (kPletter y2) := pd
            rw [I2.2.2.2.2.1, I2.2.1, nn.2] at pb
            exact pbn pb
end TXT3
