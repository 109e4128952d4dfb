/-! the reference: leaving, and the text -/
theorem pos_nI {x : Int32} (h : 0 ≤ x) : x.toNatClampNeg < 2 ^ 31 ∧ x = nI x.toNatClampNeg := by
  have h2 : x ≤ 2147483647 := by
    rw [Int32.le_iff_toInt_le]
    have := x.toInt_lt
    have e : (2147483647 : Int32).toInt = 2147483647 := by decide
    rw [e]
    omega
  obtain ⟨j, hj, e⟩ := nI_of2 (n := 2147483647) (M := 2147483647) (by decide) (Int32.not_lt.mpr h) h2
  rw [e, nI_clamp (by omega)]
  exact ⟨by omega, rfl⟩
def lwF (s : Nat → Int32) (nj : Nat) (k : Int32) : Nat → Int32 → Int32
  | 0, g => mLeaver s nj k g
  | n + 1, g => if mLeaver s nj k g = -9 then -9 else lwF s nj k n (g ||| (1 <<< (mLeaver s nj k g &&& 31)))
def gnF (s : Nat → Int32) (nj : Nat) (k : Int32) : Nat → Int32
  | 0 => 0
  | i + 1 => gnF s nj k i ||| (1 <<< (mLeaver s nj k (gnF s nj k i) &&& 31))
def rMLeav (s : Nat → Int32) (nv nj : Nat) (p x : Int32) : Int32 := if pHas nv p ∧ 0 ≤ x then lwF s nj p x.toNatClampNeg 0 else -1
/-- the text: typed so far, and where the reader stands -/
def mT (z : MS) : Prop := kMat z ≤ kMtyped z ∧ kMtyped z ≤ 100
def rLook (z : MS) : Int32 := if nI (kMtyped z) ≤ nI (kMat z) then -1 else kMtext z (kMat z)
theorem mT_at {z : MS} {a : Nat} (h : a ≤ kMtyped z) (hT : mT z) : mT (uMat z a) := ⟨h, hT.2⟩
theorem look_c {z : MS} (hT : mT z) : nI (kMtyped z) ≤ nI (kMat z) ↔ kMtyped z ≤ kMat z := nI_leI (a := kMtyped z) (b := kMat z) (by have := hT.1; have := hT.2; omega) (by have := hT.1; have := hT.2; omega)
theorem look_in {z : MS} (hT : mT z) (h : ¬ rLook z = -1) : kMat z < kMtyped z ∧ rLook z = kMtext z (kMat z) := by
  unfold rLook at h ⊢
  by_cases q : nI (kMtyped z) ≤ nI (kMat z)
  · rw [if_pos q] at h
    exact absurd rfl h
  · rw [if_neg q]
    exact ⟨Nat.not_le.mp (fun r => q ((look_c hT).mpr r)), rfl⟩
theorem look_at {z : MS} (hT : mT z) (h : kMat z < kMtyped z) : rLook z = kMtext z (kMat z) := by
  unfold rLook
  rw [if_neg (fun q => by have := (look_c hT).mp q; omega)]
theorem look_no {z : MS} (hT : mT z) (h : kMtyped z ≤ kMat z) : rLook z = -1 := by
  unfold rLook
  rw [if_pos ((look_c hT).mpr h)]
theorem pin_look {v : Int32} (h : pIn v 48 57) : ¬ v = -1 := fun e => h.1 (by rw [e]; decide)
theorem num_look {v : Int32} (h : ¬ numOf v = 0) : ¬ v = -1 := fun e => h (by rw [e]; decide)
theorem num_nI (v : Int32) : (numOf v).toNatClampNeg ≤ 3 ∧ numOf v = nI (numOf v).toNatClampNeg := by
  unfold numOf
  repeat' split
  all_goals decide
def skN (t : Nat → Int32) : Nat → Nat → Nat
  | 0, _ => 0
  | n + 1, a => if t a = 32 then skN t n (a + 1) + 1 else 0
theorem skN_le (t : Nat → Int32) : ∀ n a, skN t n a ≤ n
  | 0, _ => Nat.le_refl _
  | n + 1, a => by
    have h := skN_le t n (a + 1)
    unfold skN
    split <;> omega
def sk (z : MS) : Nat := skN (kMtext z) (kMtyped z - kMat z) (kMat z)
abbrev gSkip (z : MS) : MS := uMat z (kMat z + sk z)
theorem sk_le (z : MS) : sk z ≤ kMtyped z - kMat z := skN_le _ _ _
theorem mT_skip {z : MS} (hT : mT z) : mT (gSkip z) := mT_at (by have h := sk_le z; have := hT.1; omega) hT
theorem sk_in {z : MS} {i : Nat} (hT : mT z) (hi : i ≤ kMtyped z - kMat z) (e : rLook (uMat z (kMat z + i)) = 32) : i < kMtyped z - kMat z := by
  have h := (look_in (z := uMat z (kMat z + i)) (mT_at (by have := hT.1; omega) hT) (by rw [e]; decide)).1
  have h2 : kMat z + i < kMtyped z := h
  omega
theorem sk_go {z : MS} {i : Nat} (hT : mT z) (hi : i < kMtyped z - kMat z) (e : rLook (uMat z (kMat z + i)) = 32) (hv : sk z = skN (kMtext z) (kMtyped z - kMat z - i) (kMat z + i) + i) : sk z = skN (kMtext z) (kMtyped z - kMat z - (i + 1)) (kMat z + (i + 1)) + (i + 1) := by
  have h : rLook (uMat z (kMat z + i)) = kMtext z (kMat z + i) := look_at (z := uMat z (kMat z + i)) (mT_at (by have := hT.1; omega) hT) (show kMat z + i < kMtyped z by omega)
  rw [hv, show kMtyped z - kMat z - i = (kMtyped z - kMat z - (i + 1)) + 1 from by omega, skN, if_pos (h.symm.trans e)]
  rw [Nat.add_assoc, Nat.add_assoc, Nat.add_comm 1 i]
theorem sk_no {z : MS} {i : Nat} (hT : mT z) (hi : i ≤ kMtyped z - kMat z) (e : ¬ rLook (uMat z (kMat z + i)) = 32) (hv : sk z = skN (kMtext z) (kMtyped z - kMat z - i) (kMat z + i) + i) : sk z = i := by
  rcases Nat.lt_or_ge i (kMtyped z - kMat z) with g | g
  · have h : rLook (uMat z (kMat z + i)) = kMtext z (kMat z + i) := look_at (z := uMat z (kMat z + i)) (mT_at (by have := hT.1; omega) hT) (show kMat z + i < kMtyped z by omega)
    rw [hv, show kMtyped z - kMat z - i = (kMtyped z - kMat z - (i + 1)) + 1 from by omega, skN, if_neg (fun q => e (h.trans q)), Nat.zero_add]
  · rw [hv, show kMtyped z - kMat z - i = 0 from by omega, skN, Nat.zero_add]
/-- a number -/
def rdV (z : MS) : Nat → Int32
  | 0 => 0
  | i + 1 => ((10 * rdV z i) + rLook (uMat z (kMat z + i))) - 48
abbrev pR (z : MS) (i : Nat) : Prop := pIn (rLook (uMat z (kMat z + i))) 48 57 ∧ (i = 0 ∨ ¬ rdV z i = 0)
def rdK (z : MS) : Nat → Nat → Nat
  | 0, i => i
  | n + 1, i => if pR z i then rdK z n (i + 1) else i
def rd4 (z : MS) : Nat := rdK z 4 0
theorem rdK_le {z : MS} (hT : mT z) : ∀ n i, kMat z + i ≤ kMtyped z → kMat z + rdK z n i ≤ kMtyped z
  | 0, _, h => h
  | n + 1, i, h => by
    unfold rdK
    split
    · rename_i q
      have h2 := (look_in (z := uMat z (kMat z + i)) (mT_at h hT) (pin_look q.1)).1
      have h3 : kMat z + i < kMtyped z := h2
      exact rdK_le hT n (i + 1) (by omega)
    · exact h
theorem rd_no {z : MS} {i : Nat} (h : ¬ pR z i) : ∀ n, rdK z n i = i
  | 0 => rfl
  | n + 1 => by unfold rdK; rw [if_neg h]
theorem rd_go {z : MS} {i : Nat} (hi : i < 4) (h : pR z i) (hv : rd4 z = rdK z (4 - i) i) : rd4 z = rdK z (4 - (i + 1)) (i + 1) := by
  rw [hv, show 4 - i = (4 - (i + 1)) + 1 from by omega, rdK, if_pos h]
def gRead (z : MS) (k : Nat) : MS := uMnums (uMfail (uMat z (kMat z + rd4 z)) (if nI (kMat z + rd4 z) = nI (kMat z) ∨ pIn (rLook (uMat z (kMat z + rd4 z))) 48 57 then nI (kMat z + rd4 z) else kMfail z)) (upd (kMnums z) k (rdV z (rd4 z)))
theorem mT_read {z : MS} (hT : mT z) (k : Nat) : mT (gRead z k) := ⟨rdK_le hT 4 0 hT.1, hT.2⟩
/-- what is done -/
def gDoes (z : MS) (nv nj : Nat) (L : Int32) : Int32 × MS :=
  if L = 102 then ((gFin (kMs z) nj (kMnums z 0)).1, uMs z (gFin (kMs z) nj (kMnums z 0)).2)
  else if L = 106 then ((gAdds (kMs z) nv nj (kMnums z 0) (kMnums z 1) (kMnums z 2)).1, uMs z (gAdds (kMs z) nv nj (kMnums z 0) (kMnums z 1) (kMnums z 2)).2)
  else if L = 109 then ((gMoves (kMs z) nv nj (kMnums z 0) (kMnums z 1)).1, uMs z (gMoves (kMs z) nv nj (kMnums z 0) (kMnums z 1)).2)
  else if L = 114 then ((gRing (kMs z) nv nj (kMnums z 0) (kMnums z 1) (kMnums z 2)).1, uMs z (gRing (kMs z) nv nj (kMnums z 0) (kMnums z 1) (kMnums z 2)).2)
  else if L = 120 then ((gExch (kMs z) nv nj (kMnums z 0) (kMnums z 1)).1, uMs z (gExch (kMs z) nv nj (kMnums z 0) (kMnums z 1)).2)
  else gEvB z nv nj (kMnums z 0)
/-- an order -/
def orA : Nat → Nat → MS → MS
  | 0, _, z => z
  | n + 1, i, z => if kMfail z = -9 then (if 0 < i ∧ sk z = 0 then uMfail (gSkip z) (nI (kMat (gSkip z))) else orA n (i + 1) (gRead (gSkip z) i)) else z
def itO (z : MS) : Nat → MS
  | 0 => z
  | i + 1 => gRead (gSkip (itO z i)) i
abbrev oN (z : MS) : Nat := (numOf (rLook z)).toNatClampNeg
abbrev oS (z : MS) : MS := uMat z (kMat z + 1)
def zA (z : MS) : MS := orA (oN z) 0 (oS z)
abbrev oD (z : MS) (nv nj : Nat) : Int32 × MS := gDoes (uMat (zA z) (kMat (zA z) + sk (zA z) + 1)) nv nj (rLook z)
def gOrder (z : MS) (nv nj : Nat) : MS := if numOf (rLook z) = 0 then uMfail z (nI (kMat z)) else if kMfail (zA z) = -9 then (if rLook (gSkip (zA z)) = 59 then uMfail (oD z nv nj).2 (if (oD z nv nj).1 < 0 then nI (kMat z) else -9) else uMfail (gSkip (zA z)) (nI (kMat (gSkip (zA z))))) else zA z
theorem mT_itO {z : MS} (hT : mT z) : ∀ i, mT (itO z i)
  | 0 => hT
  | i + 1 => mT_read (mT_skip (mT_itO hT i)) i
theorem mT_orA : ∀ (n i : Nat) (z : MS), mT z → mT (orA n i z)
  | 0, _, _, h => h
  | n + 1, i, z, h => by
    unfold orA
    split
    · split
      · exact ⟨(mT_skip h).1, h.2⟩
      · exact mT_orA n (i + 1) _ (mT_read (mT_skip h) i)
    · exact h
theorem s_itO (z : MS) : ∀ i, kMs (itO z i) = kMs z
  | 0 => rfl
  | i + 1 => s_itO z i
theorem s_orA : ∀ (n i : Nat) (z : MS), kMs (orA n i z) = kMs z
  | 0, _, _ => rfl
  | n + 1, i, z => by
    unfold orA
    split
    · split
      · rfl
      · exact (s_orA n (i + 1) _).trans rfl
    · rfl
theorem mT_oS {z : MS} (hT : mT z) (h : ¬ numOf (rLook z) = 0) : mT (oS z) := mT_at (look_in hT (num_look h)).1 hT
theorem mT_zA {z : MS} (hT : mT z) (h : ¬ numOf (rLook z) = 0) : mT (zA z) := mT_orA _ _ _ (mT_oS hT h)
theorem s_zA (z : MS) : kMs (zA z) = kMs z := s_orA _ _ _
theorem or_go {n i : Nat} {y z : MS} (hi : i < n) (h : kMfail z = -9) (g : ¬ (0 < i ∧ sk z = 0)) (hv : y = orA (n - i) i z) : y = orA (n - (i + 1)) (i + 1) (gRead (gSkip z) i) := by
  rw [hv, show n - i = (n - (i + 1)) + 1 from by omega, orA, if_pos h, if_neg g]
theorem or_f {n i : Nat} {y z : MS} (h : ¬ kMfail z = -9) (hv : y = orA (n - i) i z) : y = z := by
  rw [hv]
  cases n - i with
  | zero => rfl
  | succ k => unfold orA; rw [if_neg h]
theorem or_r {n i : Nat} {y z : MS} (hi : i < n) (h : kMfail z = -9) (g : 0 < i ∧ sk z = 0) (hv : y = orA (n - i) i z) : y = uMfail (gSkip z) (nI (kMat (gSkip z))) := by
  rw [hv, show n - i = (n - (i + 1)) + 1 from by omega, orA, if_pos h, if_pos g]
theorem nI_ne9 {n : Nat} (h : n < 2 ^ 31) : ¬ nI n = -9 := by
  intro e
  have h2 := nI_pos (n := n) h
  rw [e] at h2
  exact h2 (by decide)
theorem sk_z {z : MS} (hT : mT z) (h : nI (sk z) = 0) : sk z = 0 := by
  have h1 := sk_le z
  have h2 := hT.2
  exact (nI_eq (a := sk z) (b := 0) (by omega) (by decide)).mp h
theorem mT_b {z : MS} (hT : mT z) : kMat z < 2 ^ 31 := by
  have h1 := hT.1
  have h2 := hT.2
  omega
