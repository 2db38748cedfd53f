/-! ===== the port goes on ===== -/
theorem V_cnt {x : Cx} {z : Nat} {Po : Pst} {N N' : Int} {I : Mm} {k k' n n' pc : Nat} {L : List (Option Value)} {st : List Value} (hN : N = N') (hk : k = k') (hn : n = n') (kk : V x z Po N' I k' n' pc L st) : V x z Po N I k n pc L st := by
  subst hN; subst hk; subst hn; exact kk
theorem goJ_n {M : Mm} {a k : Int} (h : a ≠ 11 ∧ a ≠ 13 ∧ a ≠ 14 ∧ a ≠ 15 ∧ a ≠ 16 ∧ a ≠ 17) (h3 : a < 67 ∨ (k ≠ 10 ∧ k ≠ 11 ∧ k ≠ 12)) (hw : nxW M (M 11 6) = -1 ∨ 67 ≤ nxW M (M 11 6)) (ha : a ≠ -1) : goJ M a k = M a k := by
  unfold goJ
  by_cases c : M 11 5 < 0
  · rw [cif_t c]; exact gStart_n (by omega) (by omega) (by omega)
  · rw [cif_f c]
theorem goM_n {J : Mm} {t a k : Int} (h : a ≠ 11) (h3 : a < 67 ∨ k ≠ 10) (hw : J 11 5 = -1 ∨ 67 ≤ J 11 5) : goM J t a k = J a k := by
  unfold goM
  by_cases c : 0 ≤ J 11 5 ∧ goC J t ≤ goN J t
  · rw [cif_t c]
    unfold gFin
    rw [up_c h, up_c h, up_c h, up_k (a := 11) (k' := 5) (by decide), up_n (by omega), up_c h]
  · rw [cif_f c, up_c h]
theorem goM_6 (J : Mm) (t : Int) (hw : J 11 5 = -1 ∨ 67 ≤ J 11 5) : goM J t 11 6 = goN J t := by
  unfold goM
  by_cases c : 0 ≤ J 11 5 ∧ goC J t ≤ goN J t
  · rw [cif_t c]
    unfold gFin
    rw [up_k (by decide), up_k (by decide), up_k (by decide), up_k (by decide), up_s]
  · rw [cif_f c, up_s]
theorem GoC_J {I : Mm} {N : Int} (h : GoC I N) : GoC (goJ I) N := by
  unfold goJ
  by_cases c : I 11 5 < 0
  · rw [cif_t c]; exact GoC_start h (by have := h.2.1; omega)
  · rw [cif_f c]; exact h
theorem goJ_6 {I : Mm} {N : Int} (h : GoC I N) : goJ I 11 6 = I 11 6 := by
  unfold goJ
  have hw := nxW_r h.1 (I 11 6)
  by_cases c : I 11 5 < 0
  · rw [cif_t c]; exact gStart_n (by decide) (Or.inr (by decide)) (by omega)
  · rw [cif_f c]
/-- one step of the class's clock: the word that left is counted for its stream -/
noncomputable def kGo (M : Mm) (t : Int) : Mm := cif (goA (goJ M) t < 0) (goM (goJ M) t) (up (goM (goJ M) t) (25 + 2 * M (goA (goJ M) t) 1) 5 (M (25 + 2 * M (goA (goJ M) t) 1) 5 + M (goA (goJ M) t) 4))
theorem goA_r {J : Mm} {N : Int} (h : GoC J N) (t : Int) : goA J t = -1 ∨ (67 ≤ goA J t ∧ goA J t < N ∧ goA J t = J 11 5) := by
  unfold goA
  by_cases c : 0 ≤ J 11 5 ∧ goC J t ≤ goN J t
  · rw [cif_t c]; have := h.2.1; exact Or.inr ⟨by omega, by omega, rfl⟩
  · rw [cif_f c]; exact Or.inl rfl
/-- what the clock needs of the words and streams -/
def TikC (M : Mm) (N : Int) : Prop := GoC M N ∧ (∀ w : Int, 67 ≤ w → w < N → (0 ≤ M w 1 ∧ M w 1 ≤ 7) ∧ (0 ≤ M w 4 ∧ M w 4 ≤ 99)) ∧ ∀ s : Int, 0 ≤ s → s ≤ 7 → 0 ≤ M (25 + 2 * s) 5 ∧ M (25 + 2 * s) 5 ≤ 1000000
theorem kGo_6 {M : Mm} {N t : Int} (h : TikC M N) : kGo M t 11 6 = goN (goJ M) t := by
  have hJ := GoC_J h.1
  have hr := goA_r hJ t
  unfold kGo
  by_cases c : goA (goJ M) t < 0
  · rw [cif_t c]; exact goM_6 _ _ (by have := hJ.2.1; omega)
  · rw [cif_f c, up_c (by have := (h.2.1 (goA (goJ M) t) (by omega) (by omega)).1; omega)]; exact goM_6 _ _ (by have := hJ.2.1; omega)
