/-! ===== orders: what the reference tries ===== -/
abbrev lnM (I : Mm) (i : Int) : Int := I 55 (13 * I 61 i + 1)
abbrev duM (I : Mm) (i : Int) : Int := I 55 (13 * I 61 i + 3)
/-- lateness and end behind the first n of a row of places -/
noncomputable def ptl (I : Mm) (P : Int → Int) (n : Nat) : Int × Int := fld (fun q i => (q.1 + max 0 (q.2 + lnM I (P i) - duM I (P i)), q.2 + lnM I (P i))) (0, I 49 7) n
theorem ptl_s (I : Mm) (P : Int → Int) {i : Int} (h : 0 ≤ i) : ptl I P (i + 1).toNat = ((ptl I P i.toNat).1 + max 0 ((ptl I P i.toNat).2 + lnM I (P i) - duM I (P i)), (ptl I P i.toNat).2 + lnM I (P i)) := fld_s _ _ h
theorem ptl_c {I : Mm} {P Q : Int → Int} {n : Nat} (h : ∀ i : Int, 0 ≤ i → i < n → P i = Q i) : ptl I P n = ptl I Q n := by
  unfold ptl
  exact fld_cong fun q i i0 i1 => by rw [h i i0 i1]
theorem ptl_b {I : Mm} {P : Int → Int} (h7 : 0 ≤ I 49 7 ∧ I 49 7 ≤ 100000) {m : Int} (h : ∀ i : Int, 0 ≤ i → i < m → (0 ≤ lnM I (P i) ∧ lnM I (P i) ≤ 99) ∧ (0 ≤ duM I (P i) ∧ duM I (P i) ≤ 150000)) : ∀ n : Nat, (n : Int) ≤ m → n ≤ 6 → (0 ≤ (ptl I P n).1 ∧ (ptl I P n).1 ≤ 300000 * n) ∧ (0 ≤ (ptl I P n).2 ∧ (ptl I P n).2 ≤ 100000 + 99 * n)
  | 0, _, _ => by
    have e : ptl I P 0 = (0, I 49 7) := rfl
    rw [e]
    dsimp only
    omega
  | n + 1, hn, h6 => by
    have ih := ptl_b h7 h n (by omega) (by omega)
    have hb := h n (by omega) (by omega)
    have e := ptl_s I P (i := (n : Int)) (by omega)
    rw [show ((n : Int) + 1).toNat = n + 1 by omega, Int.toNat_natCast] at e
    rw [e]
    dsimp only
    omega
