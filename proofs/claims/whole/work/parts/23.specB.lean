/-! ===== answers of the reference, and its next memory ===== -/
theorem loop_fn (m : Int) (hm : 0 ≤ m) (P : Int → Prop) (hend : P m) (hs : ∀ i : Int, 0 ≤ i → i < m → P (i + 1) → P i) : P 0 := by
  have key : ∀ (j : Nat) (i : Int), 0 ≤ i → i ≤ m → (m - i).toNat = j → P i := by
    intro j
    induction j with
    | zero =>
      intro i h1 h2 h3
      have : i = m := by omega
      subst this
      exact hend
    | succ j ih =>
      intro i h1 h2 h3
      exact hs i h1 (by omega) (ih (i + 1) (by omega) (by omega) (by omega))
  exact key m.toNat 0 (by omega) hm (by omega)
theorem fld_b {f : Int → Int} {a0 B : Int} (hf : ∀ i : Int, 0 ≤ f i ∧ f i ≤ B) : ∀ n : Nat, a0 ≤ fld (fun a i => a + f i) a0 n ∧ fld (fun a i => a + f i) a0 n ≤ a0 + n * B
  | 0 => by simp [fld]
  | n + 1 => by
    have h := fld_b (a0 := a0) hf n
    have h2 := hf n
    have e : fld (fun a i => a + f i) a0 (n + 1) = fld (fun a i => a + f i) a0 n + f n := rfl
    rw [e]
    have : ((n + 1 : Nat) : Int) * B = n * B + B := by rw [Int.natCast_add, Int.add_mul]; simp
    omega
noncomputable def wrF (I : Mm) (s lane i n : Int) : Int := cif (I 58 s = -4) (-11) (cif (I 58 s ≠ lane) (-12) (cif (i < 0 ∨ n < 0 ∨ I 59 s < i + n) (-13) 1))
theorem wrF_1 {I : Mm} {s lane i n : Int} : (wrF I s lane i n = 1 ↔ I 58 s ≠ -4 ∧ I 58 s = lane ∧ 0 ≤ i ∧ 0 ≤ n ∧ i + n ≤ I 59 s) ∧ -13 ≤ wrF I s lane i n ∧ wrF I s lane i n ≤ 1 := by
  unfold wrF
  by_cases h1 : I 58 s = -4
  · rw [cif_t h1]; omega
  · rw [cif_f h1]
    by_cases h2 : I 58 s ≠ lane
    · rw [cif_t h2]; omega
    · rw [cif_f h2]
      by_cases h3 : i < 0 ∨ n < 0 ∨ I 59 s < i + n
      · rw [cif_t h3]; omega
      · rw [cif_f h3]; omega
noncomputable def toldF (I : Mm) (w k : Int) : Int := cif (k = 0) (I 55 (13 * w + 9)) (cif (k = 1) (I 55 (13 * w + 6)) (cif (k = 2) (I 55 (13 * w + 1)) (cif (k = 3) (I 55 (13 * w + 2)) (cif (k = 4) (I 55 (13 * w + 5)) (cif (k = 5) (I 55 (13 * w + 7)) (cif (k = 6) (I 55 (13 * w + 3)) (cif (k = 7) (I 55 (13 * w + 4)) (cif (k = 8) (I 55 (13 * w + 10)) (I 55 (13 * w + 8))))))))))
noncomputable def aTold (I : Mm) (w k : Int) : Int := cif (0 ≤ w ∧ w ≤ I 49 6 - 1) (cif (0 ≤ k ∧ k ≤ 9) (toldF I w k) (-1)) (-1)
noncomputable def aRank (I : Mm) (w q : Int) : Int := cif (0 ≤ w ∧ w ≤ I 49 6 - 1) (cif (0 ≤ q ∧ q ≤ 1) (rk I w q) (-1099511627777)) (-1099511627777)
noncomputable def aFull (I : Mm) (k v : Int) : Int := cif (k = 0 ∧ 1 ≤ v ∧ v ≤ 24) (I 49 12) (cif (k = 1 ∧ 0 ≤ v ∧ v ≤ 2) (I 49 13) (-1))
noncomputable def gFull (I : Mm) (k v : Int) : Mm := cif (k = 0 ∧ 1 ≤ v ∧ v ≤ 24) (up I 49 12 v) (cif (k = 1 ∧ 0 ≤ v ∧ v ≤ 2) (up I 49 13 v) I)
noncomputable def aNext (I : Mm) : Int := cif (mkN I = -4) (-4) (wOf I (I 55 (13 * mkN I + 8)))
noncomputable def aCount (I : Mm) (k : Int) : Int := cif (k = 0) (I 49 6) (cif (k = 1) (cntW (fun w => I 55 (13 * w + 9) = 0) (I 49 6).toNat) (cif (k = 2) (cntW (fun w => I 55 (13 * w + 9) = 1) (I 49 6).toNat) (cif (k = 3) (cntW (fun w => I 55 (13 * w + 9) = 2) (I 49 6).toNat) (cif (k = 4) (cntW (fun w => I 55 (13 * w + 9) = 3) (I 49 6).toNat) (cif (k = 5) (cntW (opn I) (I 49 6).toNat) (cif (k = 6) (I 49 7) (cif (k = 7) (I 49 8) (-1))))))))
noncomputable def aSent (I : Mm) (i : Int) : Int := cif (0 ≤ i) (cif (I 49 11 ≤ i) (-4) (I 56 i)) (-1)
noncomputable def aLate (I : Mm) (w : Int) : Int := cif (0 ≤ w ∧ w ≤ I 49 6 - 1) (cif (I 55 (13 * w + 9) = 2) (I 55 (13 * w + 11) - I 55 (13 * w + 3)) (-100004)) (-100001)
noncomputable def aTaken (I : Mm) (s : Int) : Int := cif (0 ≤ s ∧ s ≤ 7) (I 54 s) (-1)
noncomputable def aSet (I : Mm) (s k v : Int) : Int := cif (0 ≤ s ∧ s ≤ 7) (cif (okSet k v) (I 50 (7 * s + k)) (-1)) (-1)
noncomputable def gSet (I : Mm) (s k v : Int) : Mm := cif (0 ≤ s ∧ s ≤ 7) (cif (okSet k v) (up I 50 (7 * s + k) v) I) I
noncomputable def aDrop (I : Mm) (s : Int) : Int := cif (0 ≤ s ∧ s ≤ 3) (cif (I 58 s = -4) (-11) (I 59 s)) (-1)
noncomputable def gDrop (I : Mm) (s : Int) : Mm := cif (0 ≤ s ∧ s ≤ 3) (cif (I 58 s = -4) I (up I 58 s (-4))) I
/-- what a lane keeps of an int -/
noncomputable def lnv (lane v : Int) : Int := cif (lane = 0) (Int.bmod v 256) (cif (lane = 1) (Int.bmod v 65536) v)
noncomputable def aItem (I : Mm) (s lane i : Int) : Int := cif (0 ≤ s ∧ s ≤ 3) (cif (0 ≤ lane ∧ lane ≤ 2) (wrF I s lane i 1) (-1)) (-1)
noncomputable def gItem (I : Mm) (s lane i v : Int) : Mm := cif ((0 ≤ s ∧ s ≤ 3) ∧ (0 ≤ lane ∧ lane ≤ 2) ∧ wrF I s lane i 1 = 1) (up I 60 (24 * s + i) (lnv lane v)) I
theorem oI_i2b (a : Int) : (Int32.ofInt a).toInt8.toInt32 = Int32.ofInt (Int.bmod a 256) := by
  apply Int32.toInt_inj.mp
  have h := Int.bmod_lt (x := a) (m := 256) (by decide)
  have h2 := Int.le_bmod (x := a) (m := 256) (by decide)
  rw [Int8.toInt_toInt32, Int32.toInt_toInt8, oI_rt (a := Int.bmod a 256) (by omega), Int32.toInt_ofInt]
  exact Int.bmod_bmod_of_dvd (by decide)
theorem oI_i2s (a : Int) : (Int32.ofInt a).toInt16.toInt32 = Int32.ofInt (Int.bmod a 65536) := by
  apply Int32.toInt_inj.mp
  have h := Int.bmod_lt (x := a) (m := 65536) (by decide)
  have h2 := Int.le_bmod (x := a) (m := 65536) (by decide)
  rw [Int16.toInt_toInt32, Int32.toInt_toInt16, oI_rt (a := Int.bmod a 65536) (by omega), Int32.toInt_ofInt]
  exact Int.bmod_bmod_of_dvd (by decide)
theorem bm_rng (v : Int) : (-128 ≤ Int.bmod v 256 ∧ Int.bmod v 256 ≤ 127) ∧ (-32768 ≤ Int.bmod v 65536 ∧ Int.bmod v 65536 ≤ 32767) := by
  have h := Int.bmod_lt (x := v) (m := 256) (by decide)
  have h2 := Int.le_bmod (x := v) (m := 256) (by decide)
  have h3 := Int.bmod_lt (x := v) (m := 65536) (by decide)
  have h4 := Int.le_bmod (x := v) (m := 65536) (by decide)
  omega
