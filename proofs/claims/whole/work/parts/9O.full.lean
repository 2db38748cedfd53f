/-! ===== full keeps the invariant; behind has one answer ===== -/
theorem full_k {I : Mm} {N v x y : Int} (hI : Inv I N) (hF : Fx (up (up I 11 x v) 49 y v)) (hxy : (x = 3 ∧ y = 12 ∧ 1 ≤ v ∧ v ≤ 24) ∨ (x = 4 ∧ y = 13 ∧ 0 ≤ v ∧ v ≤ 2)) : Inv (up (up I 11 x v) 49 y v) N := by
  have r : ∀ a : Int, a ≠ 11 → a ≠ 49 → up (up I 11 x v) 49 y v a = I a := fun a h1 h2 => by rw [up_row h2, up_row h1]
  have q : ∀ k : Int, k ≠ y → up (up I 11 x v) 49 y v 49 k = I 49 k := fun k hk => by rw [up_k hk, up_c (by decide)]
  have p : ∀ k : Int, k ≠ x → up (up I 11 x v) 49 y v 11 k = I 11 k := fun k hk => by rw [up_c (by decide), up_k hk]
  have ey : up (up I 11 x v) 49 y v 49 y = v := up_s _ _ _ _
  have ex : up (up I 11 x v) 49 y v 11 x = v := by rw [up_c (by decide), up_s]
  generalize up (up I 11 x v) 49 y v = J at hF r q p ex ey ⊢
  have r55 := r 55 (by decide) (by decide)
  have ew : ∀ w : Int, 0 ≤ w → w < I 49 6 → J (67 + w) = I (67 + w) := fun w a b => r _ (by omega) (by omega)
  have q6 := q 6 (by omega)
  have q7 := q 7 (by omega)
  have q8 := q 8 (by omega)
  have q9 := q 9 (by omega)
  have q11 := q 11 (by omega)
  have hsn := hI.sn
  unfold SN at hsn
  refine ⟨by rw [q6]; exact hI.n, hF, ?_, SS_of q6 r55 (r 51 (by decide) (by decide)) (r 52 (by decide) (by decide)) (r 53 (by decide) (by decide)) (r 54 (by decide) (by decide)) hI.ss, SW_of q6 q7 r55 hI.sw, by unfold SetOK; rw [r 50 (by decide) (by decide)]; exact hI.set, CSt_of hI.st (fun a k ha => by rw [r a (by omega) (by omega)]) (r 50 (by decide) (by decide)) (r 51 (by decide) (by decide)) (r 52 (by decide) (by decide)) (r 53 (by decide) (by decide)) (r 54 (by decide) (by decide)), CSh_of hI.sh (fun a k ha => by rw [r a (by omega) (by omega)]), CTp_of (by rw [r 4 (by decide) (by decide)]) (q 20 (by omega)) (r 5 (by decide) (by decide)) (r 62 (by decide) (by decide)) (r 6 (by decide) (by decide)) hI.tp, CRu_of (r 8 (by decide) (by decide)) (r 10 (by decide) (by decide)) (r 57 (by decide) (by decide)) hI.ru, CWd_of q6 q7 q11 r55 (r 56 (by decide) (by decide)) (r 3 (by decide) (by decide)) ew hI.wd, ?_, CTu_of q6 q11 r55 (r 56 (by decide) (by decide)) (r 17 (by decide) (by decide)) (fun w a b => by rw [ew w a b]) hI.tu, CLi_of q6 r55 (by rw [r 13 (by decide) (by decide)]) (r 14 (by decide) (by decide)) (by rw [r 15 (by decide) (by decide)]) (r 16 (by decide) (by decide)) hI.li⟩
  · unfold SN
    rcases hxy with ⟨rfl, rfl, h⟩ | ⟨rfl, rfl, h⟩
    · rw [q6, q7, q8, q9, ey, q 13 (by decide), q 20 (by decide)]
      exact ⟨hsn.1, hsn.2.1, hsn.2.2.1, h, hsn.2.2.2.2.1, hsn.2.2.2.2.2.1, hsn.2.2.2.2.2.2⟩
    · rw [q6, q7, q8, q9, ey, q 12 (by decide), q 20 (by decide)]
      exact ⟨hsn.1, hsn.2.1, hsn.2.2.1, hsn.2.2.2.1, h, hsn.2.2.2.2.2.1, hsn.2.2.2.2.2.2⟩
  · have h := hI.po
    unfold CPo at h ⊢
    rcases hxy with ⟨rfl, rfl, -⟩ | ⟨rfl, rfl, -⟩
    · rw [q6, q7, q8, q9, q11, ey, q 13 (by decide), p 2 (by decide), ex, p 4 (by decide), p 5 (by decide), p 6 (by decide), p 7 (by decide), p 8 (by decide), p 9 (by decide), r55, r 0 (by decide) (by decide)]
      exact ⟨h.1, h.2.1, h.2.2.1, rfl, h.2.2.2.2⟩
    · rw [q6, q7, q8, q9, q11, ey, q 12 (by decide), p 2 (by decide), ex, p 3 (by decide), p 5 (by decide), p 6 (by decide), p 7 (by decide), p 8 (by decide), p 9 (by decide), r55, r 0 (by decide) (by decide)]
      exact ⟨h.1, h.2.1, h.2.2.1, h.2.2.2.1, rfl, h.2.2.2.2.2⟩
theorem Inv.full1 {I : Mm} {N k v : Int} (hI : Inv I N) (hF : Fx (gFull (kFull I k v) k v)) : Inv (gFull (kFull I k v) k v) N ∧ aFull (kFull I k v) k v = aFull I k v := by
  unfold kFull gFull aFull at *
  by_cases c : k = 0 ∧ 1 ≤ v ∧ v ≤ 24
  · rw [cif_t c, cif_t c] at hF
    rw [cif_t c, cif_t c, cif_t c, cif_t c, up_c (by decide)]
    exact ⟨full_k hI hF (Or.inl ⟨rfl, rfl, c.2⟩), rfl⟩
  · rw [cif_f c, cif_f c] at hF
    rw [cif_f c, cif_f c, cif_f c, cif_f c]
    by_cases d : k = 1 ∧ 0 ≤ v ∧ v ≤ 2
    · rw [cif_t d, cif_t d] at hF
      rw [cif_t d, cif_t d, cif_t d, cif_t d, up_c (by decide)]
      exact ⟨full_k hI hF (Or.inr ⟨rfl, rfl, d.2⟩), rfl⟩
    · rw [cif_f d, cif_f d, cif_f d]
      exact ⟨hI, rfl⟩
