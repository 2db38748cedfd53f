theorem up_id (I : Mm) (a k : Int) : up I a k (I a k) = I := by
  funext a' k'
  rw [up_def]
  split
  · rename_i h; rw [h.1, h.2]
  · rfl
theorem up_uu (I : Mm) (a k v w : Int) : up (up I a k v) a k w = up I a k w := by
  funext a' k'
  by_cases h : a' = a ∧ k' = k
  · obtain ⟨h1, h2⟩ := h
    subst h1; subst h2
    rw [up_s, up_s]
  · have h2 : a' ≠ a ∨ k' ≠ k := by
      by_cases q : a' = a
      · exact Or.inr (fun e => h ⟨q, e⟩)
      · exact Or.inl q
    rw [up_n h2, up_n h2, up_n h2]
theorem skf_id {t : Int → Int} {n a : Int} (h : a ≤ n) : skf t n (skf t n a) = skf t n a := by
  obtain ⟨h1, h2, h3, h4⟩ := skf_R (t := t) h
  exact (skR_eq ⟨Int.le_refl _, h2, fun q q1 q2 => by omega, h4⟩).symm
theorem dgt_b (t : Int → Int) (n : Int) : ∀ (f : Nat) (v a : Int), 0 ≤ v → v ≤ 999 → a ≤ n → 0 ≤ (dgt t n f v a).1 ∧ (dgt t n f v a).1 ≤ 999 ∧ a ≤ (dgt t n f v a).2 ∧ (dgt t n f v a).2 ≤ n
  | 0, v, a, h1, h2, h3 => ⟨h1, h2, Int.le_refl _, h3⟩
  | f + 1, v, a, h1, h2, h3 => by
    by_cases c : a < n ∧ 48 ≤ t a ∧ t a ≤ 57
    · rw [dgt, cif_t c]
      by_cases c2 : 99 < v
      · rw [cif_t c2]
        have := dgt_b t n f v (a + 1) h1 h2 (by omega)
        omega
      · rw [cif_f c2]
        have := dgt_b t n f (10 * v + t a - 48) (a + 1) (by omega) (by omega) (by omega)
        omega
    · rw [dgt, cif_f c]
      exact ⟨h1, h2, Int.le_refl _, h3⟩
theorem nbr_b {t : Int → Int} {n a : Int} (h : a ≤ n) : 0 ≤ (nbr t n a).1 ∧ (nbr t n a).1 ≤ 99 ∧ a ≤ (nbr t n a).2 ∧ (nbr t n a).2 ≤ n := by
  obtain ⟨h1, h2, h3, h4⟩ := skf_R (t := t) h
  unfold nbr
  by_cases c : skf t n a < n ∧ 48 ≤ t (skf t n a) ∧ t (skf t n a) ≤ 57
  · rw [cif_t c]
    have hd := dgt_b t n 40 0 (skf t n a) (by omega) (by omega) h2
    by_cases c2 : 99 < (dgt t n 40 0 (skf t n a)).1 ∨ (dgt t n 40 0 (skf t n a)).1 = 0
    · rw [cif_t c2]; dsimp only; omega
    · rw [cif_f c2]; omega
  · rw [cif_f c]; dsimp only; omega
theorem sgn_m4 {t : Int → Int} {n a : Int} (ht : ∀ q : Int, 0 ≤ q → q < n → 32 ≤ t q) (h0 : 0 ≤ a) (hn : a ≤ n) : (sgn t n a = -4 ↔ a = n) ∧ (a < n → sgn t n a = t a) := by
  unfold sgn
  by_cases c : a < n
  · rw [cif_t c]
    have := ht a h0 c
    refine ⟨by omega, fun _ => rfl⟩
  · rw [cif_f c]
    refine ⟨by omega, fun h => absurd h c⟩
