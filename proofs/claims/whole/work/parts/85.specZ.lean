/-! ===== spans of a sheet, ranks and words out of it ===== -/
noncomputable def wsF (I : Mm) (s lane i n : Int) : Int := cif ((0 ≤ s ∧ s ≤ 3) ∧ (0 ≤ lane ∧ lane ≤ 2)) (cif (wrF I s lane i n = 1) 0 (wrF I s lane i n)) (-1)
theorem wsF_v (I : Mm) (s lane i n : Int) : (wsF I s lane i n = -1 ∧ ¬ ((0 ≤ s ∧ s ≤ 3) ∧ (0 ≤ lane ∧ lane ≤ 2))) ∨ (((0 ≤ s ∧ s ≤ 3) ∧ (0 ≤ lane ∧ lane ≤ 2)) ∧ wrF I s lane i n = 1 ∧ wsF I s lane i n = 0) ∨ (((0 ≤ s ∧ s ≤ 3) ∧ (0 ≤ lane ∧ lane ≤ 2)) ∧ wrF I s lane i n ≠ 1 ∧ wsF I s lane i n = wrF I s lane i n ∧ -13 ≤ wrF I s lane i n ∧ wrF I s lane i n ≤ -11) := by
  by_cases c : (0 ≤ s ∧ s ≤ 3) ∧ (0 ≤ lane ∧ lane ≤ 2)
  · by_cases e : wrF I s lane i n = 1
    · exact Or.inr (Or.inl ⟨c, e, by unfold wsF; rw [cif_t c, cif_t e]⟩)
    · refine Or.inr (Or.inr ⟨c, e, by unfold wsF; rw [cif_t c, cif_f e], ?_⟩)
      unfold wrF at e ⊢
      by_cases h1 : I 58 s = -4
      · rw [cif_t h1]; omega
      · rw [cif_f h1] at e ⊢
        by_cases h2 : I 58 s ≠ lane
        · rw [cif_t h2]; omega
        · rw [cif_f h2] at e ⊢
          by_cases h3 : i < 0 ∨ n < 0 ∨ I 59 s < i + n
          · rw [cif_t h3]; omega
          · rw [cif_f h3] at e; omega
  · exact Or.inl ⟨by unfold wsF; rw [cif_f c], c⟩
theorem CSh_of {I M : Mm} (h : CSh I) (hM : ∀ a q : Int, (41 ≤ a ∧ a ≤ 48) ∨ (58 ≤ a ∧ a ≤ 60) → M a q = I a q) : CSh M := by
  intro s s0 s1
  have := h s s0 s1
  rw [hM 58 s (by omega), hM (41 + 2 * s) 1 (by omega), hM (41 + 2 * s) 2 (by omega), hM 59 s (by omega)]
  refine ⟨this.1, this.2.1, this.2.2.1, fun q q0 q1 => ?_⟩
  rw [hM (42 + 2 * s) q (by omega), hM 60 _ (by omega)]
  exact this.2.2.2 q q0 q1
theorem wr_in {I : Mm} (h : CSh I) {s lane i n : Int} (hs : 0 ≤ s ∧ s ≤ 3) (hw : wrF I s lane i n = 1) : 0 ≤ i ∧ 0 ≤ n ∧ i + n ≤ 24 := by
  have h1 := wrF_1.1.mp hw
  have h2 := (h s hs.1 hs.2).2.2.1
  omega
noncomputable def tkF (I : Mm) (s lane i n : Int) : Int := cif (1 ≤ n ∧ n ≤ 24) (cif (wsF I s lane i n = 0) (cif (okRk I s i n) 0 (-2)) (wsF I s lane i n)) (-1)
/-- words that came, each once, all waiting where they must -/
def okPk (I : Mm) (s i n mw : Int) : Prop := (∀ k : Int, 0 ≤ k → k < n → (0 ≤ itm I s i k ∧ itm I s i k < I 49 6) ∧ (mw ≠ 0 → I 55 (13 * itm I s i k + 9) = 0)) ∧ ¬ dup (itm I s i) n
noncomputable def pkF (I : Mm) (s lane i n mw : Int) : Int := cif (wsF I s lane i n = 0) (cif (okPk I s i n mw) 0 (-2)) (wsF I s lane i n)
