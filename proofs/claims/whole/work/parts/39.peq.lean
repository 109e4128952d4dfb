/-! ===== programs: the class reads sign by sign, the reference order by order ===== -/
def rr (n k : Nat) (o : Int32) (c : CS) (x : SS) (y : PS) : Int32 × CS := ((roF n k (o, (c, (x, y)))).1, (roF n k (o, (c, (x, y)))).2.1)
theorem roF_s (n k : Nat) (z : RS) : roF (n + 1) k z = (if pRead (zy z) (nI k) then (if kPior (sRead (zy z) (nI k)) = 0 then roF n (k + 1) (rStep z k) else (if (fCall (zc z) (zx z) (sRead (zy z) (nI k))).1 < 0 then (-1000 - kPlp (sRead (zy z) (nI k)), ((fCall (zc z) (zx z) (sRead (zy z) (nI k))).2.1, ((fCall (zc z) (zx z) (sRead (zy z) (nI k))).2.2, sRead (zy z) (nI k)))) else roF n (k + 1) (rStep z k))) else (-1000 - nI k, (zc z, (zx z, sRead (zy z) (nI k))))) := rfl
theorem rr_go {n k : Nat} {o : Int32} {c : CS} {x : SS} {y : PS} (h1 : pRead y (nI k)) (h2 : kPior (sRead y (nI k)) = 0) : rr (n + 1) k o c x y = rr n (k + 1) o c x (sRead y (nI k)) := by
  have e2 : rStep (o, (c, (x, y))) k = (o, (c, (x, sRead y (nI k)))) := if_pos h2
  have e : roF (n + 1) k (o, (c, (x, y))) = roF n (k + 1) (o, (c, (x, sRead y (nI k)))) := by
    rw [roF_s n k, if_pos (show pRead (zy (o, (c, (x, y)))) (nI k) from h1), if_pos (show kPior (sRead (zy (o, (c, (x, y)))) (nI k)) = 0 from h2), e2]
  unfold rr
  rw [e]
theorem rr_no {n k : Nat} {o : Int32} {c : CS} {x : SS} {y : PS} (h1 : ¬ pRead y (nI k)) : (rr (n + 1) k o c x y).1 = -1000 - nI k := by
  unfold rr roF
  rw [if_neg (show ¬ pRead (zy (o, (c, (x, y)))) (nI k) from h1)]
theorem rr_call {n k : Nat} {o : Int32} {c : CS} {x : SS} {y : PS} (h1 : pRead y (nI k)) (h2 : ¬ kPior (sRead y (nI k)) = 0) : rr (n + 1) k o c x y = if (fCall c x (sRead y (nI k))).1 < 0 then (-1000 - kPlp (sRead y (nI k)), (fCall c x (sRead y (nI k))).2.1) else rr n (k + 1) (o + 1) (fCall c x (sRead y (nI k))).2.1 (fCall c x (sRead y (nI k))).2.2 (sRead y (nI k)) := by
  have e2 : rStep (o, (c, (x, y))) k = (o + 1, ((fCall c x (sRead y (nI k))).2.1, ((fCall c x (sRead y (nI k))).2.2, sRead y (nI k)))) := if_neg h2
  by_cases g : (fCall c x (sRead y (nI k))).1 < 0
  · rw [if_pos g]
    unfold rr roF
    rw [if_pos (show pRead (zy (o, (c, (x, y)))) (nI k) from h1), if_neg (show ¬ kPior (sRead (zy (o, (c, (x, y)))) (nI k)) = 0 from h2), if_pos (show (fCall (zc (o, (c, (x, y)))) (zx (o, (c, (x, y)))) (sRead (zy (o, (c, (x, y)))) (nI k))).1 < 0 from g)]
  · rw [if_neg g]
    have e : roF (n + 1) k (o, (c, (x, y))) = roF n (k + 1) (o + 1, ((fCall c x (sRead y (nI k))).2.1, ((fCall c x (sRead y (nI k))).2.2, sRead y (nI k)))) := by
      rw [roF_s n k, if_pos (show pRead (zy (o, (c, (x, y)))) (nI k) from h1), if_neg (show ¬ kPior (sRead (zy (o, (c, (x, y)))) (nI k)) = 0 from h2), if_neg (show ¬ (fCall (zc (o, (c, (x, y)))) (zx (o, (c, (x, y)))) (sRead (zy (o, (c, (x, y)))) (nI k))).1 < 0 from g), e2]
    unfold rr
    rw [e]
theorem rd0_ior (y : PS) : kPior (rd0 y) = 0 := by
  unfold rd0
  split
  · assumption
  · rfl
theorem rd0_sg (y : PS) : kPsigns (rd0 y) = kPsigns y := by unfold rd0; split <;> rfl
theorem rd0_id {y : PS} (h : kPior y = 0) : rd0 y = y := if_pos h
/-- between two orders -/
def Bt (S : Nat → Int32) (y : PS) : Prop := kPsigns y = S ∧ kPletter (rd0 y) = 0
/-- in an order: its letter and place, how many numbers have begun, the digits of the last, and their values -/
def Io (S : Nat → Int32) (L p : Int32) (b d : Nat) (N : Nat → Int32) (y : PS) : Prop := kPsigns y = S ∧ kPletter y = L ∧ kPior y = 0 ∧ kPlp y = p ∧ kPbegun y = nI b ∧ kPdigits y = nI d ∧ ∀ i, i < b → kPnums y i = N i
section TXT
variable {S N : Nat → Int32} {L p : Int32} {b d k n : Nat} {y : PS} {o : Int32} {c : CS} {x : SS}
theorem sg_at (e : kPsigns y = S) (hk : k < 100) : aT 100 (kPsigns y) (nI k) = S k := by rw [aT_nI hk (by decide), e]
theorem bt_sp (B : Bt S y) (hk : k < 100) (hs : S k = 32) : pRead y (nI k) ∧ kPior (sRead y (nI k)) = 0 ∧ Bt S (sRead y (nI k)) := by
  have es : aT 100 (kPsigns y) (nI k) = 32 := (sg_at B.1 hk).trans hs
  have e : sRead y (nI k) = uPdigits (rd0 y) 0 := by
    unfold sRead sRd
    rw [if_pos es]
  refine ⟨?_, ?_, ?_⟩
  · show pRd (rd0 y) (aT 100 (kPsigns y) (nI k))
    unfold pRd
    rw [if_pos es]
    trivial
  · rw [e]
    exact rd0_ior y
  · rw [e]
    refine ⟨(rd0_sg y).trans B.1, ?_⟩
    rw [rd0_id (show kPior (uPdigits (rd0 y) 0) = 0 from rd0_ior y)]
    exact B.2
theorem io_sp (B : Io S L p b d N y) (hk : k < 100) (hs : S k = 32) : pRead y (nI k) ∧ kPior (sRead y (nI k)) = 0 ∧ Io S L p b 0 N (sRead y (nI k)) := by
  have es : aT 100 (kPsigns y) (nI k) = 32 := (sg_at B.1 hk).trans hs
  have e : sRead y (nI k) = uPdigits y 0 := by
    unfold sRead sRd
    rw [if_pos es, rd0_id B.2.2.1]
  refine ⟨?_, ?_, ?_⟩
  · show pRd (rd0 y) (aT 100 (kPsigns y) (nI k))
    unfold pRd
    rw [if_pos es]
    trivial
  · rw [e]
    exact B.2.2.1
  · rw [e]
    exact ⟨B.1, B.2.1, B.2.2.1, B.2.2.2.1, B.2.2.2.2.1, rfl, B.2.2.2.2.2.2⟩
theorem bt_let (B : Bt S y) (hk : k < 100) (hs : ¬ S k = 32) : (pRead y (nI k) ↔ ¬ numOf (S k) = 0) ∧ (¬ numOf (S k) = 0 → kPior (sRead y (nI k)) = 0 ∧ Io S (S k) (nI k) 0 0 N (sRead y (nI k))) := by
  have es : aT 100 (kPsigns y) (nI k) = S k := sg_at B.1 hk
  refine ⟨?_, fun q => ?_⟩
  · show pRd (rd0 y) (aT 100 (kPsigns y) (nI k)) ↔ _
    unfold pRd
    rw [es, if_neg hs, if_pos B.2]
  · have e : sRead y (nI k) = uPdigits (uPbegun (uPlp (uPletter (rd0 y) (S k)) (nI k)) 0) 0 := by
      unfold sRead sRd
      rw [es, if_neg hs, if_pos B.2]
      exact if_pos q
    rw [e]
    exact ⟨rd0_ior y, (rd0_sg y).trans B.1, rfl, rd0_ior y, rfl, rfl, rfl, fun i hi => absurd hi (Nat.not_lt_zero i)⟩
theorem io_semi (B : Io S L p b d N y) (hL : ¬ L = 0) (hk : k < 100) (hs : S k = 59) : (pRead y (nI k) ↔ nI b = numOf L) ∧ (nI b = numOf L → sRead y (nI k) = uPior y 1) := by
  have es : aT 100 (kPsigns y) (nI k) = 59 := (sg_at B.1 hk).trans hs
  have hl : ¬ kPletter y = 0 := fun q => hL (B.2.1.symm.trans q)
  refine ⟨?_, fun q => ?_⟩
  · show pRd (rd0 y) (aT 100 (kPsigns y) (nI k)) ↔ _
    unfold pRd
    rw [es, rd0_id B.2.2.1, if_neg (by decide), if_neg hl, if_pos rfl]
    show kPbegun y = numOf (kPletter y) ↔ _
    rw [B.2.2.2.2.1, B.2.1]
  · unfold sRead sRd
    rw [es, rd0_id B.2.2.1, if_neg (by decide), if_neg hl, if_pos rfl]
    exact if_pos (show kPbegun y = numOf (kPletter y) from by rw [B.2.2.2.2.1, B.2.1]; exact q)
theorem io_dig (B : Io S L p b d N y) (hL : ¬ L = 0) (hk : k < 100) (hs : pIn (S k) 48 57) : (pRead y (nI k) ↔ pDig y) ∧ sRead y (nI k) = sDig y (S k - 48) := by
  have es : aT 100 (kPsigns y) (nI k) = S k := sg_at B.1 hk
  have hl : ¬ kPletter y = 0 := fun q => hL (B.2.1.symm.trans q)
  have n1 : ¬ S k = 32 := fun q => hs.1 (by rw [q]; decide)
  have n2 : ¬ S k = 59 := fun q => hs.2 (by rw [q]; decide)
  refine ⟨?_, ?_⟩
  · show pRd (rd0 y) (aT 100 (kPsigns y) (nI k)) ↔ _
    unfold pRd
    rw [es, rd0_id B.2.2.1, if_neg n1, if_neg hl, if_neg n2]
    exact ⟨fun q => q.2.2, fun q => ⟨hs.1, hs.2, q⟩⟩
  · unfold sRead sRd
    rw [es, rd0_id B.2.2.1, if_neg n1, if_neg hl, if_neg n2]
    exact if_pos hs
theorem io_oth (B : Io S L p b d N y) (hL : ¬ L = 0) (hk : k < 100) (n1 : ¬ S k = 32) (n2 : ¬ S k = 59) (n3 : ¬ pIn (S k) 48 57) : ¬ pRead y (nI k) := by
  have es : aT 100 (kPsigns y) (nI k) = S k := sg_at B.1 hk
  have hl : ¬ kPletter y = 0 := fun q => hL (B.2.1.symm.trans q)
  show ¬ pRd (rd0 y) (aT 100 (kPsigns y) (nI k))
  unfold pRd
  rw [es, rd0_id B.2.2.1, if_neg n1, if_neg hl, if_neg n2]
  exact fun q => n3 ⟨q.1, q.2.1⟩
theorem io_end (B : Io S L p b d N y) (hL : ¬ L = 0) : (rr 0 k o c x y).1 = -1000 - nI k := by
  unfold rr roF
  exact if_pos (show pInOrd y from ⟨fun q => hL (B.2.1.symm.trans q), B.2.2.1⟩)
/-- an order that goes wrong here -/
theorem io_bad (B : Io S L p b d N y) (hL : ¬ L = 0) (hk : n + k ≤ 100) (h : n = 0 ∨ (¬ S k = 32 ∧ (S k = 59 → ¬ nI b = numOf L) ∧ (pIn (S k) 48 57 → ¬ pDig y))) : (rr n k o c x y).1 = -1000 - nI k := by
  cases n with
  | zero => exact io_end B hL
  | succ n =>
    obtain ⟨h1, h2, h3⟩ := h.resolve_left (Nat.succ_ne_zero n)
    refine rr_no (fun q => ?_)
    by_cases g : S k = 59
    · exact h2 g ((io_semi B hL (by omega) g).1.mp q)
    · by_cases w : pIn (S k) 48 57
      · exact h3 w ((io_dig B hL (by omega) w).1.mp q)
      · exact io_oth B hL (by omega) h1 g w q
theorem skN_end (T : Nat → Int32) : ∀ n k, skN T n k < n → ¬ T (k + skN T n k) = 32
  | 0, k, h => absurd h (Nat.not_lt_zero _)
  | n + 1, k, h => by
    unfold skN at h ⊢
    by_cases g : T k = 32
    · rw [if_pos g] at h ⊢
      have q := skN_end T n (k + 1) (by omega)
      rwa [show k + (skN T n (k + 1) + 1) = k + 1 + skN T n (k + 1) from by omega]
    · rw [if_neg g]
      exact g
theorem skip_bt {T : Nat → Int32} : ∀ n k (y : PS), Bt S y → (∀ i, i < n + k → S i = T i) → n + k ≤ 100 → ∃ y', Bt S y' ∧ rr n k o c x y = rr (n - skN T n k) (k + skN T n k) o c x y'
  | 0, k, y, B, _, _ => ⟨y, B, rfl⟩
  | n + 1, k, y, B, hS, hl => by
    unfold skN
    by_cases g : T k = 32
    · rw [if_pos g]
      have s := bt_sp B (k := k) (by omega) ((hS k (by omega)).trans g)
      obtain ⟨y', B', e⟩ := skip_bt (T := T) n (k + 1) _ s.2.2 (fun i hi => hS i (by omega)) (by omega)
      refine ⟨y', B', ?_⟩
      rw [rr_go s.1 s.2.1, e, show n + 1 - (skN T n (k + 1) + 1) = n - skN T n (k + 1) from by omega, show k + (skN T n (k + 1) + 1) = k + 1 + skN T n (k + 1) from by omega]
    · rw [if_neg g]
      exact ⟨y, B, rfl⟩
theorem skip_io {T : Nat → Int32} : ∀ n k d (y : PS), Io S L p b d N y → (∀ i, i < n + k → S i = T i) → n + k ≤ 100 → ∃ y', Io S L p b (if skN T n k = 0 then d else 0) N y' ∧ rr n k o c x y = rr (n - skN T n k) (k + skN T n k) o c x y'
  | 0, k, d, y, B, _, _ => ⟨y, B, rfl⟩
  | n + 1, k, d, y, B, hS, hl => by
    unfold skN
    by_cases g : T k = 32
    · rw [if_pos g]
      have s := io_sp B (k := k) (by omega) ((hS k (by omega)).trans g)
      obtain ⟨y', B', e⟩ := skip_io (T := T) n (k + 1) 0 _ s.2.2 (fun i hi => hS i (by omega)) (by omega)
      refine ⟨y', ?_, ?_⟩
      · rw [if_neg (by omega)]
        have q : (if skN T n (k + 1) = 0 then 0 else 0) = 0 := by split <;> rfl
        rw [q] at B'
        exact B'
      · rw [rr_go s.1 s.2.1, e, show n + 1 - (skN T n (k + 1) + 1) = n - skN T n (k + 1) from by omega, show k + (skN T n (k + 1) + 1) = k + 1 + skN T n (k + 1) from by omega]
    · rw [if_neg g]
      exact ⟨y, B, rfl⟩
end TXT
/-! a number is read -/
section TXT2
variable {S N : Nat → Int32} {L p : Int32} {b : Nat} {o : Int32} {c : CS} {x : SS}
/-- what the class holds behind i digits of the number b -/
def Dg (S : Nat → Int32) (L p : Int32) (b i : Nat) (N : Nat → Int32) (z : MS) (y : PS) : Prop := if i = 0 then Io S L p b 0 N y else Io S L p (b + 1) i (upd N b (rdV z i)) y
theorem dig_go {z : MS} {y : PS} {i : Nat} (hL : ¬ L = 0) (hb : nI b < numOf L) (hb3 : b < 3) (hi : i < 4) (D : Dg S L p b i N z y) (hk : kMat z + i < 100) (hs : rLook (uMat z (kMat z + i)) = S (kMat z + i)) (q : pR z i) : pRead y (nI (kMat z + i)) ∧ kPior (sRead y (nI (kMat z + i))) = 0 ∧ Dg S L p b (i + 1) N z (sRead y (nI (kMat z + i))) := by
  have qs : pIn (S (kMat z + i)) 48 57 := by rw [← hs]; exact q.1
  by_cases g : i = 0
  · subst g
    have B : Io S L p b 0 N y := D
    have s := io_dig B hL hk qs
    have d0 : kPdigits y = 0 := B.2.2.2.2.2.1
    have pb : pBegin y := by
      show kPbegun y < numOf (kPletter y)
      rw [B.2.2.2.2.1, B.2.1]
      exact hb
    have pd : pDig y := by
      unfold pDig
      rw [if_pos d0]
      exact pb
    have e : sRead y (nI (kMat z + 0)) = uPdigits (uPbegun (uPnums y (pT 3 (kPnums y) (kPbegun y) (S (kMat z + 0) - 48))) (kPbegun y + 1)) 1 := by
      rw [s.2]
      unfold sDig
      rw [if_pos d0]
      unfold sBegin
      rw [if_pos pb]
    refine ⟨s.1.mpr pd, ?_, ?_⟩
    · rw [e]
      exact B.2.2.1
    · rw [e]
      refine ⟨B.1, B.2.1, B.2.2.1, B.2.2.2.1, ?_, rfl, fun j hj => ?_⟩
      · show kPbegun y + 1 = nI (b + 1)
        rw [B.2.2.2.2.1, nI_1]
      · show pT 3 (kPnums y) (kPbegun y) (S (kMat z + 0) - 48) j = upd N b (rdV z 1) j
        rw [B.2.2.2.2.1, pT_nI hb3 (by decide)]
        unfold upd
        by_cases w : j = b
        · rw [if_pos w, if_pos w]
          show _ = ((10 * 0) + rLook (uMat z (kMat z + 0))) - 48
          rw [hs, show (10 : Int32) * 0 = 0 from by decide, Int32.zero_add]
        · rw [if_neg w, if_neg w]
          exact B.2.2.2.2.2.2 j (by omega)
  · have B : Io S L p (b + 1) i (upd N b (rdV z i)) y := by
      unfold Dg at D
      rwa [if_neg g] at D
    have s := io_dig B hL hk qs
    have d0 : ¬ kPdigits y = 0 := by
      rw [B.2.2.2.2.2.1]
      exact nI_ne0 (by omega) (by omega)
    have d4 : ¬ 4 ≤ kPdigits y := by
      rw [B.2.2.2.2.2.1]
      exact nI_ge (b := 4) hi (by decide)
    have eb : kPbegun y - 1 = nI b := by rw [B.2.2.2.2.1, nI_pred]
    have ev : aT 3 (kPnums y) (kPbegun y - 1) = rdV z i := by
      rw [eb, aT_nI hb3 (by decide), B.2.2.2.2.2.2 b (by omega)]
      exact pk_us
    have v0 : ¬ aT 3 (kPnums y) (kPbegun y - 1) = 0 := by
      rw [ev]
      exact q.2.resolve_left g
    have pd : pDig y := by
      unfold pDig
      rw [if_neg d0]
      exact ⟨d4, v0⟩
    have e : sRead y (nI (kMat z + i)) = uPdigits (uPnums y (pT 3 (kPnums y) (kPbegun y - 1) (aT 3 (kPnums y) (kPbegun y - 1) * 10 + (S (kMat z + i) - 48)))) (kPdigits y + 1) := by
      rw [s.2]
      unfold sDig
      rw [if_neg d0, if_pos ⟨d4, v0⟩]
    refine ⟨s.1.mpr pd, ?_, ?_⟩
    · rw [e]
      exact B.2.2.1
    · rw [e]
      unfold Dg
      rw [if_neg (Nat.succ_ne_zero i)]
      refine ⟨B.1, B.2.1, B.2.2.1, B.2.2.2.1, B.2.2.2.2.1, ?_, fun j hj => ?_⟩
      · show kPdigits y + 1 = nI (i + 1)
        rw [B.2.2.2.2.2.1, nI_1]
      · show pT 3 (kPnums y) (kPbegun y - 1) (aT 3 (kPnums y) (kPbegun y - 1) * 10 + (S (kMat z + i) - 48)) j = upd N b (rdV z (i + 1)) j
        rw [ev, eb, pT_nI hb3 (by decide)]
        unfold upd
        by_cases w : j = b
        · rw [if_pos w, if_pos w]
          show _ = ((10 * rdV z i) + rLook (uMat z (kMat z + i))) - 48
          rw [hs, Int32.mul_comm, Int32.sub_eq_add_neg, Int32.sub_eq_add_neg, Int32.add_assoc]
        · rw [if_neg w, B.2.2.2.2.2.2 j hj, if_neg w]
          exact pk_un w
theorem dig_up {z : MS} (hT : mT z) (hS : ∀ i, i < kMtyped z → S i = kMtext z i) (hL : ¬ L = 0) (hb : nI b < numOf L) (hb3 : b < 3) : ∀ n i (y : PS), i + n = 4 → kMat z + i ≤ kMtyped z → Dg S L p b i N z y → ∃ y', Dg S L p b (rdK z n i) N z y' ∧ kMat z + rdK z n i ≤ kMtyped z ∧ i ≤ rdK z n i ∧ rdK z n i ≤ 4 ∧ (¬ pR z (rdK z n i) ∨ rdK z n i = 4) ∧ rr (kMtyped z - (kMat z + i)) (kMat z + i) o c x y = rr (kMtyped z - (kMat z + rdK z n i)) (kMat z + rdK z n i) o c x y'
  | 0, i, y, e, hl, D => ⟨y, D, hl, Nat.le_refl _, by show i ≤ 4; omega, Or.inr (by show i = 4; omega), rfl⟩
  | n + 1, i, y, e, hl, D => by
    have h100 := hT.2
    unfold rdK
    by_cases q : pR z i
    · rw [if_pos q]
      have li := look_in (z := uMat z (kMat z + i)) (mT_at hl hT) (pin_look q.1)
      have lt : kMat z + i < kMtyped z := li.1
      have hs : rLook (uMat z (kMat z + i)) = S (kMat z + i) := li.2.trans (hS _ lt).symm
      obtain ⟨s1, s2, s3⟩ := dig_go hL hb hb3 (show i < 4 by omega) D (by omega) hs q
      obtain ⟨y', a1, a2, a3, a4, a5, a6⟩ := dig_up hT hS hL hb hb3 n (i + 1) _ (by omega) (by omega) s3
      refine ⟨y', a1, a2, by omega, a4, a5, ?_⟩
      rw [show kMtyped z - (kMat z + i) = (kMtyped z - (kMat z + (i + 1))) + 1 from by omega, rr_go s1 s2]
      exact a6
    · rw [if_neg q]
      exact ⟨y, D, hl, Nat.le_refl _, by omega, Or.inl q, rfl⟩
end TXT2
