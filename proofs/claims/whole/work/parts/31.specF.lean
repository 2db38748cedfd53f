theorem V_topL {x : Cx} {z : Nat} {Po : Pst} {N : Int} {I : Mm} {k n pc : Nat} {L : List (Option Value)} {st : List Value} {a : Int} (b : Int) (e : a = b) (kk : V x z Po N I k n pc L (vL b :: st)) : V x z Po N I k n pc L (vL a :: st) := e ▸ kk
theorem gComes_sc (I : Mm) (s ln : Int) : (gComes I s ln 49 6 = I 49 6 + 1 ∧ gComes I s ln 49 7 = I 49 7 ∧ gComes I s ln 49 8 = I 49 8) ∧ (∀ q : Int, gComes I s ln 60 q = I 60 q) ∧ (∀ q : Int, gComes I s ln 50 q = I 50 q) := by
  have h := gNew_sc I s ln
  have h60 : ∀ q : Int, gNew I s ln 60 q = I 60 q := fun q => by unfold gNew; simp [up]
  have h50 : ∀ q : Int, gNew I s ln 50 q = I 50 q := fun q => by unfold gNew; simp [up]
  unfold gComes
  by_cases c : I 49 12 < cntW (fun w => gNew I s ln 55 (13 * w + 9) = 0) (I 49 6 + 1).toNat
  · rw [cif_t c]
    unfold gDrops
    refine ⟨⟨?_, ?_, ?_⟩, fun q => ?_, fun q => ?_⟩
    · rw [up_c (by decide), up_c (by decide)]; exact h.1
    · rw [up_c (by decide), up_c (by decide)]; exact h.2.1
    · rw [up_c (by decide), up_c (by decide)]; exact h.2.2.1
    · rw [up_c (by decide), up_c (by decide)]; exact h60 q
    · rw [up_c (by decide), up_c (by decide)]; exact h50 q
  · rw [cif_f c]
    exact ⟨⟨h.1, h.2.1, h.2.2.1⟩, h60, h50⟩
def behA (I : Mm) (w k r : Int) : Prop := (¬ (0 ≤ w ∧ w ≤ I 49 6 - 1) ∨ k < -1 → r = -1) ∧ (0 ≤ w ∧ w ≤ I 49 6 - 1 → -1 ≤ k → I 55 (13 * w + 10) = -4 → r = -2) ∧ (0 ≤ w ∧ w ≤ I 49 6 - 1 → -1 ≤ k → I 55 (13 * w + 10) ≠ -4 → ∀ p : Int, 0 ≤ p → I 56 p = w → (∀ j : Int, 0 ≤ j → j < p → I 56 j ≠ w) → behR I w k p r)
theorem okPairs_s {I : Mm} {s i n : Int} (h0 : 0 ≤ n) : okPairs I s i (n + 1) ↔ okPairs I s i n ∧ (0 ≤ I 60 (24 * s + (i + 2 * n)) ∧ I 60 (24 * s + (i + 2 * n)) ≤ 7) ∧ (1 ≤ I 60 (24 * s + (i + 2 * n + 1)) ∧ I 60 (24 * s + (i + 2 * n + 1)) ≤ 99) := by
  constructor
  · intro h
    exact ⟨fun k h1 h2 => h k h1 (by omega), h n h0 (by omega)⟩
  · rintro ⟨h1, h2⟩ k k0 k1
    by_cases hk : k = n
    · subst hk; exact h2
    · exact h1 k k0 (by omega)
noncomputable def aCopy (I : Mm) (f i t j n : Int) : Int := cif ((0 ≤ f ∧ f ≤ 3) ∧ (0 ≤ t ∧ t ≤ 3)) (cif (I 58 f = -4 ∨ I 58 t = -4) (-11) (cif (wrF I f (I 58 t) i n = 1) (cif (wrF I t (I 58 t) j n = 1) n (wrF I t (I 58 t) j n)) (wrF I f (I 58 t) i n))) (-1)
noncomputable def gCopy (I : Mm) (f i t j n : Int) : Mm := fun a q => cif (a = 60 ∧ 24 * t + j ≤ q ∧ q < 24 * t + j + n) (I 60 (24 * f + (i + (q - (24 * t + j))))) (I a q)
def okCopy (I : Mm) (f i t j n : Int) : Prop := ((0 ≤ f ∧ f ≤ 3) ∧ (0 ≤ t ∧ t ≤ 3)) ∧ (I 58 f ≠ -4 ∧ I 58 t ≠ -4) ∧ wrF I f (I 58 t) i n = 1 ∧ wrF I t (I 58 t) j n = 1
