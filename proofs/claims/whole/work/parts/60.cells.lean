/-! ===== the class's cells: streams, sheets, words ===== -/
def StC (I : Mm) (N a : Int) : Prop := shk N a (0, 7) ∧ I a 1 = a + 1 ∧ shk N (a + 1) (1, 7) ∧ (25 ≤ a ∧ a ≤ 39) ∧ (∀ k : Int, 2 ≤ k → fx a k = none) ∧ fxA (a + 1) = []
def ShC (I : Mm) (N a : Int) : Prop := shk N a (0, 5) ∧ I a 0 = a + 1 ∧ shk N (a + 1) (1, 24) ∧ (41 ≤ a ∧ a ≤ 47) ∧ (∀ k : Int, 1 ≤ k → fx a k = none) ∧ fxA (a + 1) = []
theorem fx_at {a k : Int} (b : Nat) (h : (fxA a).all (fun q => decide (q.1 < b)) = true) (hk : (b : Int) ≤ k) : fx a k = none := by
  unfold fx
  have : (fxA a).find? (fun q => ((q.1 : Int) == k)) = none := by
    rw [List.find?_eq_none]
    intro q hq
    have := List.all_eq_true.mp h q hq
    simp at this ⊢
    omega
  rw [this]
  rfl
theorem stC {I : Mm} {N s : Int} (hN : 67 ≤ N) (hF : Fx I) (h0 : 0 ≤ s) (h1 : s ≤ 7) : StC I N (25 + 2 * s) := by
  obtain ⟨k1, k2⟩ := kst hN h0 (show s < 8 by omega)
  have e : 25 + 2 * s + 1 = 26 + 2 * s := by omega
  have h8 : s = 0 ∨ s = 1 ∨ s = 2 ∨ s = 3 ∨ s = 4 ∨ s = 5 ∨ s = 6 ∨ s = 7 := by omega
  have g : fx (25 + 2 * s) 1 = some (26 + 2 * s) := by rcases h8 with rfl | rfl | rfl | rfl | rfl | rfl | rfl | rfl <;> rfl
  have g2 : ∀ k : Int, 2 ≤ k → fx (25 + 2 * s) k = none := by
    intro k hk
    refine fx_at 2 ?_ (by omega)
    rcases h8 with rfl | rfl | rfl | rfl | rfl | rfl | rfl | rfl <;> decide
  refine ⟨k1, by rw [e]; exact hF.1 _ _ _ g, by rw [e]; exact k2, by omega, g2, ?_⟩
  rcases h8 with rfl | rfl | rfl | rfl | rfl | rfl | rfl | rfl <;> rfl
theorem shC {I : Mm} {N s : Int} (hN : 67 ≤ N) (hF : Fx I) (h0 : 0 ≤ s) (h1 : s ≤ 3) : ShC I N (41 + 2 * s) := by
  obtain ⟨k1, k2⟩ := ksh hN h0 (show s < 4 by omega)
  have e : 41 + 2 * s + 1 = 42 + 2 * s := by omega
  have h8 : s = 0 ∨ s = 1 ∨ s = 2 ∨ s = 3 := by omega
  have g : fx (41 + 2 * s) 0 = some (42 + 2 * s) := by rcases h8 with rfl | rfl | rfl | rfl <;> rfl
  have g2 : ∀ k : Int, 1 ≤ k → fx (41 + 2 * s) k = none := by
    intro k hk
    refine fx_at 1 ?_ (by omega)
    rcases h8 with rfl | rfl | rfl | rfl <;> decide
  refine ⟨k1, by rw [e]; exact hF.1 _ _ _ g, by rw [e]; exact k2, by omega, g2, ?_⟩
  rcases h8 with rfl | rfl | rfl | rfl <;> rfl
theorem wdC {N a : Int} (h0 : 67 ≤ a) (h1 : a < N) : shk N a (0, 9) := by
  have := kw (N := N) (w := a - 67) (by omega) (by omega)
  rw [show 67 + (a - 67) = a by omega] at this
  exact this
