/-! ===== the store: what its loops make, as functions of the class's cells ===== -/
theorem lnA_in {I : Mm} {N c r i : Int} (hL : LnC I N c r) (h0 : 0 ≤ i) (h1 : i < I c 1) : lnA I c r i = I r i := by
  unfold lnA
  have := hL.1
  rw [cif_t (by omega)]
/-- the best place by lt among those with p (the first of equals), or -1 -/
noncomputable def bstL (p : Int → Prop) (lt : Int → Int → Prop) (n : Nat) : Int := fld (fun b i => cif (p i ∧ (b = -1 ∨ lt i b)) i b) (-1) n
theorem bstL_s (p : Int → Prop) (lt : Int → Int → Prop) {i : Int} (h : 0 ≤ i) : bstL p lt (i + 1).toNat = cif (p i ∧ (bstL p lt i.toNat = -1 ∨ lt i (bstL p lt i.toNat))) i (bstL p lt i.toNat) := fld_s _ _ h
theorem bstL_r (p : Int → Prop) (lt : Int → Int → Prop) : ∀ n : Nat, bstL p lt n = -1 ∨ (0 ≤ bstL p lt n ∧ bstL p lt n < n ∧ p (bstL p lt n))
  | 0 => Or.inl rfl
  | n + 1 => by
    have h := bstL_r p lt n
    have e : bstL p lt (n + 1) = cif (p n ∧ (bstL p lt n = -1 ∨ lt n (bstL p lt n))) (n : Int) (bstL p lt n) := rfl
    by_cases hc : p n ∧ (bstL p lt n = -1 ∨ lt n (bstL p lt n))
    · rw [e, cif_t hc]
      exact Or.inr ⟨by omega, by omega, hc.1⟩
    · rw [e, cif_f hc]
      rcases h with h | ⟨h1, h2, h3⟩
      · exact Or.inl h
      · exact Or.inr ⟨h1, by omega, h3⟩
/-- the last place with p, or -1 -/
noncomputable def lstL (p : Int → Prop) (n : Nat) : Int := fld (fun b i => cif (p i) i b) (-1) n
theorem lstL_s (p : Int → Prop) {i : Int} (h : 0 ≤ i) : lstL p (i + 1).toNat = cif (p i) i (lstL p i.toNat) := fld_s _ _ h
theorem lstL_r (p : Int → Prop) : ∀ n : Nat, lstL p n = -1 ∨ (0 ≤ lstL p n ∧ lstL p n < n ∧ p (lstL p n))
  | 0 => Or.inl rfl
  | n + 1 => by
    have h := lstL_r p n
    have e : lstL p (n + 1) = cif (p n) (n : Int) (lstL p n) := rfl
    by_cases hc : p n
    · rw [e, cif_t hc]
      exact Or.inr ⟨by omega, by omega, hc⟩
    · rw [e, cif_f hc]
      rcases h with h | ⟨h1, h2, h3⟩
      · exact Or.inl h
      · exact Or.inr ⟨h1, by omega, h3⟩
/-- what stands at a place of a row; nothing at -1 -/
noncomputable def celL (I : Mm) (r b : Int) : Int := cif (b = -1) (-1) (I r b)
theorem celL_n (I : Mm) (r : Int) : celL I r (-1) = -1 := by unfold celL; rw [cif_t rfl]
theorem celL_i {I : Mm} {r b : Int} (h : 0 ≤ b) : celL I r b = I r b := by unfold celL; rw [cif_f (by omega)]
/-- bits of the open houses -/
def bitP (r g : Int) : Prop := r / 2 ^ g.toNat % 2 = 1
theorem bit_or {r h : Int} (hr : 0 ≤ r ∧ r < 16) (hh : 0 ≤ h ∧ h ≤ 3) : ∃ s : Int, Int32.ofInt 1 <<< (Int32.ofInt h &&& 31) = Int32.ofInt s ∧ ∃ q : Int, Int32.ofInt r ||| Int32.ofInt s = Int32.ofInt q ∧ (0 ≤ q ∧ q < 16) ∧ ∀ g : Int, 0 ≤ g → g ≤ 3 → (bitP q g ↔ bitP r g ∨ g = h) := by
  have key : ∀ h' : Nat, h' < 4 → ∀ r' : Nat, r' < 16 → Int32.ofInt 1 <<< (Int32.ofInt (h' : Int) &&& 31) = Int32.ofInt ((2 ^ h' : Nat) : Int) ∧ Int32.ofInt (r' : Int) ||| Int32.ofInt ((2 ^ h' : Nat) : Int) = Int32.ofInt ((r' ||| 2 ^ h' : Nat) : Int) ∧ (r' ||| 2 ^ h') < 16 ∧ ∀ g : Nat, g < 4 → (((r' ||| 2 ^ h') / 2 ^ g % 2 = 1) ↔ (r' / 2 ^ g % 2 = 1) ∨ g = h') := by decide +kernel
  obtain ⟨h1, h2, q1, h3⟩ := key h.toNat (by omega) r.toNat (by omega)
  generalize hs : 2 ^ h.toNat = s at h1 h2 q1 h3
  generalize r.toNat ||| s = q at h2 q1 h3
  rw [Int.toNat_of_nonneg hh.1] at h1
  rw [Int.toNat_of_nonneg hr.1] at h2
  refine ⟨s, h1, q, h2, by omega, fun g g0 g1 => ?_⟩
  have := h3 g.toNat (by omega)
  have e1 : bitP (q : Int) g ↔ q / 2 ^ g.toNat % 2 = 1 := by
    unfold bitP
    have : ((q : Int) / 2 ^ g.toNat % 2) = ((q / 2 ^ g.toNat % 2 : Nat) : Int) := by norm_cast
    rw [this]
    omega
  have e2 : bitP r g ↔ r.toNat / 2 ^ g.toNat % 2 = 1 := by
    unfold bitP
    have h0 : r = ((r.toNat : Nat) : Int) := by omega
    rw [h0]
    have : (((r.toNat : Nat) : Int) / 2 ^ g.toNat % 2) = ((r.toNat / 2 ^ g.toNat % 2 : Nat) : Int) := by norm_cast
    rw [this]
    simp only [Int.toNat_natCast]
    omega
  rw [e1, e2, this]
  omega
theorem bit_get {r h : Int} (hr : 0 ≤ r ∧ r < 16) (hh : 0 ≤ h ∧ h ≤ 3) : ∃ s : Int, Int32.ofInt r >>> (Int32.ofInt h &&& 31) = Int32.ofInt s ∧ ∃ q : Int, Int32.ofInt s &&& Int32.ofInt 1 = Int32.ofInt q ∧ (q = 0 ∨ q = 1) ∧ (q ≠ 0 ↔ bitP r h) := by
  have key : ∀ h' : Nat, h' < 4 → ∀ r' : Nat, r' < 16 → ∃ s : Nat, s < 16 ∧ Int32.ofInt (r' : Int) >>> (Int32.ofInt (h' : Int) &&& 31) = Int32.ofInt (s : Int) ∧ ∃ q : Nat, q < 2 ∧ Int32.ofInt (s : Int) &&& Int32.ofInt 1 = Int32.ofInt (q : Int) ∧ (q ≠ 0 ↔ (r' / 2 ^ h' % 2 = 1)) := by decide +kernel
  obtain ⟨s, -, h1, q, q1, h2, h3⟩ := key h.toNat (by omega) r.toNat (by omega)
  rw [Int.toNat_of_nonneg hh.1, Int.toNat_of_nonneg hr.1] at h1
  refine ⟨s, h1, q, h2, by omega, ?_⟩
  have e2 : bitP r h ↔ r.toNat / 2 ^ h.toNat % 2 = 1 := by
    unfold bitP
    have h0 : r = ((r.toNat : Nat) : Int) := by omega
    rw [h0]
    have : (((r.toNat : Nat) : Int) / 2 ^ h.toNat % 2) = ((r.toNat / 2 ^ h.toNat % 2 : Nat) : Int) := by norm_cast
    rw [this]
    simp only [Int.toNat_natCast]
    omega
  rw [e2, ← h3]
  omega
/-- house h has an open word at t -/
def opH (I : Mm) (t h : Int) (n : Int) : Prop := ∃ i : Int, 0 ≤ i ∧ i < n ∧ I (I 14 i) 9 ≤ t ∧ I (I 14 i) 2 = h
/-- every waiting word and mark has a house from 0 to 3 -/
def HsC (I : Mm) (c r : Int) : Prop := ∀ i : Int, 0 ≤ i → i < I c 1 → 0 ≤ I (I r i) 2 ∧ I (I r i) 2 ≤ 3
noncomputable def nxM (I : Mm) (t : Int) : Int := bstL (fun i => opH I t (I (I 16 i) 2) (I 13 1)) (fun i b => crk I 10 (I 16 i) < crk I 10 (I 16 b)) (I 15 1).toNat
noncomputable def lsO (I : Mm) (h t : Int) : Int := bstL (fun i => I (I 14 i) 2 = h ∧ I (I 14 i) 9 ≤ t) (fun i b => crk I 8 (I 14 i) < crk I 8 (I 14 b)) (I 13 1).toNat
noncomputable def grL (I : Mm) : Int := bstL (fun _ => True) (fun i b => crk I 8 (I 14 b) ≤ crk I 8 (I 14 i)) (I 13 1).toNat
noncomputable def cnS (I : Mm) (s : Int) : Int := cntW (fun i => I (I 14 i) 1 = s) (I 13 1).toNat
noncomputable def fuS (I : Mm) : Int := fld (fun f j => cif (cnS I f < cnS I (j + 1)) (j + 1) f) 0 7
noncomputable def laO (I : Mm) (s : Int) : Int := lstL (fun i => I (I 14 i) 1 = s) (I 13 1).toNat
noncomputable def laM (I : Mm) (h : Int) : Int := lstL (fun i => I (I 16 i) 2 = h) (I 15 1).toNat
/-- the next word: its cell, or -1 -/
noncomputable def nxW (I : Mm) (t : Int) : Int := cif (nxM I t = -1) (-1) (celL I 14 (lsO I (I (I 16 (nxM I t)) 2) t))
noncomputable def rmC (I : Mm) (c r i : Int) : Mm := cif (0 ≤ i ∧ i < I c 1) (rmL I c r i) I
/-- the store without the word at w and the mark at place q -/
noncomputable def gTake (I : Mm) (q w : Int) : Mm := rmC (rmC I 15 16 q) 13 14 (fstA (fun i => rmC I 15 16 q 14 i = w) (rmC I 15 16 q 13 1).toNat)
noncomputable def gDis1 (I : Mm) (w : Int) : Mm := rmC I 13 14 (fstA (fun i => I 14 i = w) (I 13 1).toNat)
noncomputable def gDisQ (J : Mm) (w : Int) : Int := cif (0 ≤ fstA (fun i => J 16 i = w) (J 15 1).toNat) (fstA (fun i => J 16 i = w) (J 15 1).toNat) (laM J (J w 2))
noncomputable def gDis (I : Mm) (w : Int) : Mm := rmC (gDis1 I w) 15 16 (gDisQ (gDis1 I w) w)
noncomputable def vic (I : Mm) (d : Int) : Int := cif (d = 1) (celL I 14 (grL I)) (cif (d = 2) (celL I 14 (laO I (fuS I))) (lnA I 13 14 (I 13 1 - 1)))
theorem rmC_n {I : Mm} {c r i a : Int} (h1 : a ≠ c) (h2 : a ≠ r) (q : Int) : rmC I c r i a q = I a q := by
  unfold rmC
  by_cases h : 0 ≤ i ∧ i < I c 1
  · rw [cif_t h]
    unfold rmL
    rw [cif_f h2, cif_f (fun x => h1 x.1)]
  · rw [cif_f h]
theorem LnC_rm {I : Mm} {N c r i c' r' : Int} (h : LnC I N c' r') (h1 : c' ≠ c) (h2 : c' ≠ r) (h3 : r' ≠ c) (h4 : r' ≠ r) : LnC (rmC I c r i) N c' r' := by
  unfold LnC
  rw [rmC_n h1 h2]
  refine ⟨h.1, fun j j0 j1 => ?_⟩
  rw [rmC_n h3 h4]
  exact h.2 j j0 j1
