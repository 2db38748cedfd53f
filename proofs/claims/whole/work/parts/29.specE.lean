/-! ===== come, sheet, promise, lags, behind, comes, copy: answers and next memories ===== -/
theorem fld_bb {f : Int → Int} {a0 B : Int} {m : Nat} (hf : ∀ i : Int, 0 ≤ i → i < m → 0 ≤ f i ∧ f i ≤ B) (hB : 0 ≤ B) : ∀ n : Nat, n ≤ m → a0 ≤ fld (fun a i => a + f i) a0 n ∧ fld (fun a i => a + f i) a0 n ≤ a0 + m * B := by
  have key : ∀ n : Nat, n ≤ m → a0 ≤ fld (fun a i => a + f i) a0 n ∧ fld (fun a i => a + f i) a0 n ≤ a0 + n * B := by
    intro n
    induction n with
    | zero => intro _; simp [fld]
    | succ n ih =>
      intro h
      have h1 := ih (by omega)
      have h2 := hf n (by omega) (by omega)
      have e : fld (fun a i => a + f i) a0 (n + 1) = fld (fun a i => a + f i) a0 n + f n := rfl
      rw [e]
      have : ((n + 1 : Nat) : Int) * B = n * B + B := by rw [Int.natCast_add, Int.add_mul]; simp
      omega
  intro n hn
  have h1 := key n hn
  have h2 : (n : Int) * B ≤ m * B := Int.mul_le_mul_of_nonneg_right (by omega) hB
  omega
noncomputable def aCome (I : Mm) (s ln : Int) : Int := cif (0 ≤ s ∧ s ≤ 7) (cif (1 ≤ ln ∧ ln ≤ 99) (cif (I 49 6 = 1000) (-3) (I 49 6)) (-1)) (-1)
noncomputable def gCome (I : Mm) (s ln : Int) : Mm := cif ((0 ≤ s ∧ s ≤ 7) ∧ (1 ≤ ln ∧ ln ≤ 99) ∧ I 49 6 ≠ 1000) (gComes I s ln) I
noncomputable def aSheet (s lane n : Int) : Int := cif ((0 ≤ s ∧ s ≤ 3) ∧ (0 ≤ lane ∧ lane ≤ 2) ∧ n ≤ 24) (cif (n < 0) (-14) n) (-1)
noncomputable def gSheet (I : Mm) (s lane n : Int) : Mm := cif ((0 ≤ s ∧ s ≤ 3) ∧ (0 ≤ lane ∧ lane ≤ 2) ∧ 0 ≤ n ∧ n ≤ 24) (fld (fun m i => up m 60 (24 * s + i) 0) (up (up I 58 s lane) 59 s n) 24) I
noncomputable def pB (I : Mm) (s q : Int) : Int := cif (I 50 (7 * q + 0) ≤ I 50 (7 * s + 0)) (I 50 (7 * q + 5)) 0
noncomputable def pA (I : Mm) (s q : Int) : Int := cif (I 50 (7 * q + 0) ≤ I 50 (7 * s + 0)) (I 50 (7 * q + 6)) 0
noncomputable def pLs (I : Mm) (s q : Int) : Int := cif (I 50 (7 * q + 0) < I 50 (7 * s + 0)) (I 50 (7 * q + 6)) 0
theorem p_b {I : Mm} (h : SetOK I) (s : Int) {q : Int} (h0 : 0 ≤ q) (h1 : q ≤ 7) : (0 ≤ pB I s q ∧ pB I s q ≤ 999) ∧ (0 ≤ pA I s q ∧ pA I s q ≤ 16) ∧ (0 ≤ pLs I s q ∧ pLs I s q ≤ 16) := by
  have h7 := h.at h0 h1
  refine ⟨?_, ?_, ?_⟩
  · unfold pB
    by_cases c : I 50 (7 * q + 0) ≤ I 50 (7 * s + 0)
    · rw [cif_t c]; omega
    · rw [cif_f c]; omega
  · unfold pA
    by_cases c : I 50 (7 * q + 0) ≤ I 50 (7 * s + 0)
    · rw [cif_t c]; omega
    · rw [cif_f c]; omega
  · unfold pLs
    by_cases c : I 50 (7 * q + 0) < I 50 (7 * s + 0)
    · rw [cif_t c]; omega
    · rw [cif_f c]; omega
noncomputable def aProm (I : Mm) (s most : Int) : Int := cif (0 ≤ s ∧ s ≤ 7) (cif (1 ≤ most ∧ most ≤ 99) (cif (16 < fld (fun a q => a + pA I s q) 0 8 ∨ 16 ≤ fld (fun a q => a + pLs I s q) 0 8) (-4) ((16 * fld (fun a q => a + pB I s q) most 8 + 15 - fld (fun a q => a + pLs I s q) 0 8) / (16 - fld (fun a q => a + pLs I s q) 0 8))) (-1)) (-1)
noncomputable def shr (I : Mm) (q : Int) : Int := cif (isInS I q) (I 50 (7 * q + 1)) 0
noncomputable def aLags (I : Mm) (s : Int) : Int := cif (0 ≤ s ∧ s ≤ 7) (cif (isInS I s) ((I 50 (7 * s + 1) * fld (fun a q => a + I 54 q) 0 8 - fld (fun a q => a + shr I q) 0 8 * I 54 s) / fld (fun a q => a + shr I q) 0 8) (-100004)) (-100001)
theorem oL_div {a b : Int} (ha : -4611686018427387904 ≤ a ∧ a ≤ 4611686018427387904) (hb : 1 ≤ b ∧ b ≤ 4611686018427387904) : Int64.ofInt a / Int64.ofInt b = Int64.ofInt (a.tdiv b) ∧ ¬ Int64.ofInt b = 0 := by
  have h1 : (a.tdiv b).natAbs ≤ a.natAbs := by
    rw [Int.natAbs_tdiv]
    exact Nat.div_le_self _ _
  constructor
  · apply Int64.toInt_inj.mp
    rw [Int64.toInt_div, oL_rt (by omega), oL_rt (by omega), oL_rt (by omega)]
    exact Int.bmod_eq_of_le (by omega) (by omega)
  · intro h
    have : Int64.ofInt b = Int64.ofInt 0 := h
    rw [← Int64.toInt_inj, oL_rt (by omega), oL_rt (by omega)] at this
    omega
theorem floor_t {v d : Int} (hd : 0 < d) : (v < v.tdiv d * d → v / d = v.tdiv d - 1) ∧ (v.tdiv d * d ≤ v → v / d = v.tdiv d) := by
  have h1 := Int.mul_ediv_add_emod v d
  have h2 := Int.emod_nonneg v (Int.ne_of_gt hd)
  have h3 := Int.emod_lt_of_pos v hd
  have h4 := Int.mul_tdiv_add_tmod v d
  rw [Int.mul_comm] at h1 h4
  have h5 : -d < v.tmod d := Int.lt_tmod_of_pos v hd
  have h6 : v.tmod d < d := Int.tmod_lt_of_pos v hd
  generalize v / d = p at *
  generalize v.tdiv d = q at *
  generalize v % d = r at *
  generalize v.tmod d = t at *
  have hpq : p * d - q * d = (p - q) * d := by rw [Int.sub_mul]
  constructor
  · intro h
    have e : (p - q) * d = t - r := by omega
    have ht : t < 0 := by omega
    have l1 : (p - q) * d < 0 := by omega
    have l2 : -2 * d < (p - q) * d := by omega
    have g1 : p - q < 0 := by
      rcases Int.lt_or_le (p - q) 0 with g | g
      · exact g
      · have := Int.mul_nonneg g (Int.le_of_lt hd); omega
    have g2 : -2 < p - q := Int.lt_of_mul_lt_mul_right l2 (Int.le_of_lt hd)
    omega
  · intro h
    have e : (p - q) * d = t - r := by omega
    have ht : 0 ≤ t := by omega
    have l1 : (p - q) * d < 1 * d := by omega
    have l2 : -1 * d < (p - q) * d := by omega
    have g1 := Int.lt_of_mul_lt_mul_right l1 (Int.le_of_lt hd)
    have g2 := Int.lt_of_mul_lt_mul_right l2 (Int.le_of_lt hd)
    omega
/-- behind: the answer, told by what it is; p: the place of w in the row of turns -/
def behR (I : Mm) (w k p r : Int) : Prop := (k = -1 → r = cntW (fun q => w < I 56 q) p.toNat) ∧ (0 ≤ k → (∃ q : Int, 0 ≤ q ∧ q < p ∧ w < I 56 q ∧ cntW (fun q => w < I 56 q) q.toNat = k ∧ r = I 56 q) ∨ (cntW (fun q => w < I 56 q) p.toNat ≤ k ∧ r = -4))
noncomputable def gComesN (I : Mm) (s i : Int) (n : Nat) : Mm := fld (fun M k => gComes M (I 60 (24 * s + (i + 2 * k))) (I 60 (24 * s + (i + 2 * k + 1)))) I n
def okPairs (I : Mm) (s i n : Int) : Prop := ∀ k : Int, 0 ≤ k → k < n → (0 ≤ I 60 (24 * s + (i + 2 * k)) ∧ I 60 (24 * s + (i + 2 * k)) ≤ 7) ∧ (1 ≤ I 60 (24 * s + (i + 2 * k + 1)) ∧ I 60 (24 * s + (i + 2 * k + 1)) ≤ 99)
noncomputable def aComes (I : Mm) (s lane i n : Int) : Int := cif ((0 ≤ s ∧ s ≤ 3) ∧ (0 ≤ lane ∧ lane ≤ 2) ∧ (0 ≤ n ∧ n ≤ 12)) (cif (wrF I s lane i (2 * n) = 1) (cif (okPairs I s i n) (cif (1000 < I 49 6 + n) (-3) (cif (n = 0) (-4) (I 49 6))) (-2)) (wrF I s lane i (2 * n))) (-1)
noncomputable def gComes2 (I : Mm) (s lane i n : Int) : Mm := cif (((0 ≤ s ∧ s ≤ 3) ∧ (0 ≤ lane ∧ lane ≤ 2) ∧ (0 ≤ n ∧ n ≤ 12)) ∧ wrF I s lane i (2 * n) = 1 ∧ okPairs I s i n ∧ I 49 6 + n ≤ 1000) (gComesN I s i n.toNat) I
