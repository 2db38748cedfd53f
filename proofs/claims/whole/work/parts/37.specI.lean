/-- the memories agree but for the reader's own places -/
def fr63 (I M : Mm) : Prop := ∀ a q : Int, a ≠ 63 → ¬ (a = 49 ∧ q = 21) → M a q = I a q
theorem fr63_up {I M : Mm} (h : fr63 I M) (v : Int) : fr63 I (up M 49 21 v) := fun a q h1 h2 => by rw [up_n (by omega)]; exact h a q h1 h2
theorem fr63_up63 {I M : Mm} (h : fr63 I M) (k v : Int) : fr63 I (up M 63 k v) := fun a q h1 h2 => by rw [up_n (Or.inl h1)]; exact h a q h1 h2
theorem fr63.f {I M : Mm} (h : fr63 I M) : M 62 = I 62 ∧ M 49 20 = I 49 20 := ⟨funext fun q => h 62 q (by decide) (by omega), h 49 20 (by decide) (by decide)⟩
noncomputable def rdA (I : Mm) : Int × (Int → Int) := rd (I 62) (I 49 20) 7 0 0 (fun _ => 0)
noncomputable def aRule (I : Mm) (q : Int) : Int := cif (0 ≤ q ∧ q ≤ 1) (rdA I).1 (-1)
def gRuleR (I : Mm) (q : Int) (I' : Mm) : Prop := (¬ (0 ≤ q ∧ q ≤ 1) → I' = I) ∧ (0 ≤ q ∧ q ≤ 1 → I' 49 20 = 0 ∧ (∀ k : Int, 0 ≤ k → k ≤ 5 → I' 57 (6 * q + k) = cif (0 < (rdA I).1) ((rdA I).2 k) (I 57 (6 * q + k))) ∧ (∀ k : Int, ¬ (6 * q ≤ k ∧ k ≤ 6 * q + 5) → I' 57 k = I 57 k) ∧ ∀ a k : Int, a ≠ 63 → a ≠ 57 → ¬ (a = 49 ∧ (k = 20 ∨ k = 21)) → I' a k = I a k)
theorem nmF_m4 : nmF (-4) = -4 := by
  unfold nmF
  rw [cif_f (by decide), cif_f (by decide), cif_f (by decide), cif_f (by decide), cif_f (by decide), cif_f (by decide)]
