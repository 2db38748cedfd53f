/-! ===== a word is made and let in ===== -/
theorem fxA_w {a : Int} (h : 67 ≤ a) : fxA a = [] := by
  unfold fxA
  rw [if_neg (by omega), List.getD_eq_getElem?_getD, List.getElem?_eq_none]
  · rfl
  · have : fxL.length = 50 := rfl
    omega
theorem shp_w {N : Int} (h : 67 ≤ N) : shp N.toNat = (0, 9) := (wdC h (show N < N + 1 by omega)).2.2
theorem upR_q {I : Mm} {a : Int} {f : Int → Int} {c : Int} (h : c ≠ a) (q : Int) : upR I a f c q = I c q := by
  unfold upR
  rw [if_neg h]
theorem gLet_n {I : Mm} {b a k : Int} (h : a ≠ 13 ∧ a ≠ 14 ∧ a ≠ 15 ∧ a ≠ 16) (h2 : a ≠ 11 ∨ k ≠ 9) (h3 : k ≠ 10) : gLet I b a k = I a k := by
  unfold gLet
  by_cases c : I 11 3 ≤ I 13 1 ∧ 0 ≤ vic (gPut I b) (I 11 4)
  · rw [cif_t c, up_n (by omega), up_k h3, gDis_n h, gPut_n h]
  · rw [cif_f c, gPut_n h]
noncomputable def eNd (I : Mm) (s ln : Int) : Int := max (I (25 + 2 * s) 2) (I 11 7) + 16 * ln / I (26 + 2 * s) 1
noncomputable def gAt (I : Mm) (s : Int) : Int := cif (I (25 + 2 * s) 4 = 0) (I 11 6) (max (I 11 6) (I (25 + 2 * s) 3 + I (26 + 2 * s) 3))
/-- the memory with the new word, before it is let in -/
def NewR (I : Mm) (N s ln : Int) (K : Mm) : Prop :=
  (K N 0 = I 0 3 ∧ K N 1 = s ∧ K N 2 = I (26 + 2 * s) 4 ∧ K N 3 = I (26 + 2 * s) 0 ∧ K N 4 = ln ∧ K N 5 = I 11 6 ∧ K N 6 = I 11 6 + I (26 + 2 * s) 2 ∧ K N 7 = I (25 + 2 * s) 4 ∧ K N 8 = eNd I s ln ∧ K N 9 = gAt I s ∧ K N 10 = 0) ∧
  (K 3 (I 0 3) = N ∧ K 0 3 = I 0 3 + 1 ∧ K (25 + 2 * s) 2 = eNd I s ln ∧ K (25 + 2 * s) 3 = gAt I s ∧ K (25 + 2 * s) 4 = I (25 + 2 * s) 4 + 1) ∧
  ∀ c q : Int, c ≠ N → ¬ (c = 3 ∧ q = I 0 3) → ¬ (c = 0 ∧ q = 3) → ¬ (c = 25 + 2 * s ∧ (q = 2 ∨ q = 3 ∨ q = 4)) → K c q = I c q
def WelR (I : Mm) (N s ln : Int) (J : Mm) : Prop := ∃ K : Mm, NewR I N s ln K ∧ J = gLet K N
/-- what the class needs for it -/
def WelC (I : Mm) (N : Int) : Prop := StoC I N ∧ (I 13 1 ≤ 24 ∧ I 15 1 ≤ 24) ∧ N = 67 + I 0 3 ∧ (0 ≤ I 0 3 ∧ I 0 3 ≤ 1000) ∧ (0 ≤ I 11 6 ∧ I 11 6 ≤ 99999) ∧ (0 ≤ I 11 7 ∧ I 11 7 ≤ 10000000) ∧ (0 ≤ I 11 9 ∧ I 11 9 ≤ 100000) ∧ ∀ s : Int, 0 ≤ s → s ≤ 7 → (0 ≤ I (25 + 2 * s) 2 ∧ I (25 + 2 * s) 2 ≤ 10000000) ∧ (0 ≤ I (25 + 2 * s) 3 ∧ I (25 + 2 * s) 3 ≤ 10000000) ∧ (0 ≤ I (25 + 2 * s) 4 ∧ I (25 + 2 * s) 4 ≤ 100000) ∧ (1 ≤ I (26 + 2 * s) 1 ∧ I (26 + 2 * s) 1 ≤ 16) ∧ (0 ≤ I (26 + 2 * s) 2 ∧ I (26 + 2 * s) 2 ≤ 999) ∧ (0 ≤ I (26 + 2 * s) 3 ∧ I (26 + 2 * s) 3 ≤ 99) ∧ (0 ≤ I (26 + 2 * s) 4 ∧ I (26 + 2 * s) 4 ≤ 3)
theorem StoC_of {I K : Mm} {N N' : Int} (h : StoC I N) (hn : N ≤ N') (hK : ∀ c q : Int, (c = 13 ∨ c = 14 ∨ c = 15 ∨ c = 16) ∨ (67 ≤ c ∧ c < N) → K c q = I c q) : StoC K N' := by
  obtain ⟨h1, h2, h3, h4⟩ := h
  refine ⟨⟨?_, fun i i0 i1 => ?_⟩, ⟨?_, fun i i0 i1 => ?_⟩, fun i i0 i1 => ?_, fun i i0 i1 => ?_⟩
  · rw [hK 13 1 (by omega)]; exact h1.1
  · rw [hK 13 1 (by omega)] at i1; rw [hK 14 i (by omega)]; have := h1.2 i i0 i1; omega
  · rw [hK 15 1 (by omega)]; exact h2.1
  · rw [hK 15 1 (by omega)] at i1; rw [hK 16 i (by omega)]; have := h2.2 i i0 i1; omega
  · rw [hK 13 1 (by omega)] at i1; have := h1.2 i i0 i1; rw [hK 14 i (by omega), hK _ 2 (by omega)]; exact h3 i i0 i1
  · rw [hK 15 1 (by omega)] at i1; have := h2.2 i i0 i1; rw [hK 16 i (by omega), hK _ 2 (by omega)]; exact h4 i i0 i1
