/-! ===== a term, by the place of its number ===== -/
noncomputable def nbq (t : Int → Int) (n b : Int) : Int × Int := cif (b < n ∧ 48 ≤ t b ∧ t b ≤ 57) (cif (99 < (dgt t n 40 0 b).1 ∨ (dgt t n 40 0 b).1 = 0) (0, b) (dgt t n 40 0 b)) (1, b)
theorem nbr_q (t : Int → Int) (n a : Int) : nbr t n a = nbq t n (skf t n a) := rfl
/-- behind a number: v its value, b the place -/
noncomputable def tlq (t : Int → Int) (n b v sg : Int) : Int × Int × Int := cif (nmF (sgn t n b) = -4) (-1, b, 0) (1 + nmF (sgn t n b), b + 1, sg * v)
noncomputable def tq (t : Int → Int) (n b sg : Int) : Int × Int × Int := cif ((nbq t n b).1 = 0) (-1, (nbq t n b).2, 0) (tlq t n (skf t n (nbq t n b).2) (nbq t n b).1 sg)
theorem trm_q {t : Int → Int} {n k a : Int} (ha : skf t n a = a) (hk : ¬ (k = 6 ∨ (0 < k ∧ ¬ (sgn t n a = 43 ∨ sgn t n a = 45)))) : trm t n k a = tq t n (skf t n (a + cif (sgn t n a = 43 ∨ sgn t n a = 45) 1 0)) (cif (sgn t n a = 45) (-1) 1) := by
  unfold trm
  rw [ha, cif_f hk]
  unfold tq tlq
  dsimp only
  rw [nbr_q]
  by_cases c : sgn t n a = 45
  · rw [cif_t c, cif_t c]
    rw [show ∀ v : Int, -1 * v = -v from fun v => by omega]
  · rw [cif_f c, cif_f c]
    rw [show ∀ v : Int, 1 * v = v from fun v => by omega]
theorem trm_f {t : Int → Int} {n k a : Int} (ha : skf t n a = a) (hk : k = 6 ∨ (0 < k ∧ ¬ (sgn t n a = 43 ∨ sgn t n a = 45))) : trm t n k a = (-1, a, 0) := by
  unfold trm
  rw [ha, cif_t hk]
theorem trm_sk {t : Int → Int} {n a : Int} (k : Int) (h : a ≤ n) : trm t n k (skf t n a) = trm t n k a := by
  unfold trm
  rw [skf_id h]
theorem filR_row {I : Mm} {a m v a' : Int} (h : a' ≠ a) : filR I a m v a' = I a' := by
  unfold filR upR
  rw [if_neg h]
theorem filR_in {I : Mm} {a m v q : Int} (h : 0 ≤ q ∧ q < m) : filR I a m v a q = v := by
  unfold filR upR
  rw [if_pos rfl, if_pos h]
theorem filR_out {I : Mm} {a m v q : Int} (h : ¬ (0 ≤ q ∧ q < m)) : filR I a m v a q = I a q := by
  unfold filR upR
  rw [if_pos rfl, if_neg h]
theorem TpC_of {I M : Mm} (h : TpC I) (h1 : M 4 1 = I 4 1) (h5 : M 5 = I 5) : TpC M := by
  unfold TpC
  rw [h1, h5]
  exact h
