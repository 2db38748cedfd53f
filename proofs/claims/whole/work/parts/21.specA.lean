/-! ===== what the reference's loops make, as functions of the memory ===== -/
theorem mulb {a b A B : Int} (ha : -A ≤ a ∧ a ≤ A) (hb : -B ≤ b ∧ b ≤ B) : -(A * B) ≤ a * b ∧ a * b ≤ A * B := by
  have h1 : a.natAbs ≤ A.natAbs := by omega
  have h2 : b.natAbs ≤ B.natAbs := by omega
  have h3 : (a * b).natAbs ≤ (A * B).natAbs := by
    rw [Int.natAbs_mul, Int.natAbs_mul]
    exact Nat.mul_le_mul h1 h2
  have h4 : 0 ≤ A * B := Int.mul_nonneg (by omega) (by omega)
  omega
noncomputable def cntW (p : Int → Prop) (n : Nat) : Int := fld (fun a w => a + cif (p w) 1 0) 0 n
theorem cntW_b (p : Int → Prop) : ∀ n : Nat, 0 ≤ cntW p n ∧ cntW p n ≤ n
  | 0 => ⟨Int.le_refl _, Int.le_refl _⟩
  | n + 1 => by
    have h := cntW_b p n
    have h2 := cif01 (p n)
    have e : cntW p (n + 1) = cntW p n + cif (p n) 1 0 := rfl
    rw [e]
    omega
def rk (I : Mm) (w q : Int) : Int := fld (fun a k => a + I 57 (6 * q + k) * I 55 (13 * w + k)) 0 6
theorem rk_b {I : Mm} (hF : Fx I) (w q : Int) : -8000000000000 ≤ rk I w q ∧ rk I w q ≤ 8000000000000 := by
  have key : ∀ n : Nat, n ≤ 6 → -(1288490188800 * n) ≤ fld (fun a k => a + I 57 (6 * q + k) * I 55 (13 * w + k)) 0 n ∧ fld (fun a k => a + I 57 (6 * q + k) * I 55 (13 * w + k)) 0 n ≤ 1288490188800 * n := by
    intro n
    induction n with
    | zero => intro _; exact ⟨Int.le_refl _, Int.le_refl _⟩
    | succ n ih =>
      intro h
      have h1 := ih (by omega)
      have h2 := hF.2.2 57 (6 * q + n) (Or.inl rfl)
      have h3 := hF.2.1 55 (13 * w + n)
      have h4 := mulb (A := 600) (B := 2147483648) (a := I 57 (6 * q + n)) (b := I 55 (13 * w + n)) h2 (by omega)
      have e : fld (fun a k => a + I 57 (6 * q + k) * I 55 (13 * w + k)) 0 (n + 1) = fld (fun a k => a + I 57 (6 * q + k) * I 55 (13 * w + k)) 0 n + I 57 (6 * q + n) * I 55 (13 * w + n) := rfl
      rw [e]
      omega
  have := key 6 (Nat.le_refl _)
  unfold rk
  omega
def opn (I : Mm) (w : Int) : Prop := I 55 (13 * w + 9) = 0 ∧ I 55 (13 * w + 7) ≤ I 49 7
def anyW (p : Int → Prop) (n : Int) : Prop := ∃ w : Int, 0 ≤ w ∧ w < n ∧ p w
noncomputable def bst (p : Int → Prop) (lt : Int → Int → Prop) (n : Nat) : Int := fld (fun b w => cif (p w ∧ (b = -4 ∨ lt w b)) w b) (-4) n
theorem bst_r (p : Int → Prop) (lt : Int → Int → Prop) : ∀ n : Nat, bst p lt n = -4 ∨ (0 ≤ bst p lt n ∧ bst p lt n < n ∧ p (bst p lt n))
  | 0 => Or.inl rfl
  | n + 1 => by
    have h := bst_r p lt n
    have e : bst p lt (n + 1) = cif (p n ∧ (bst p lt n = -4 ∨ lt n (bst p lt n))) (n : Int) (bst p lt n) := rfl
    by_cases hc : p n ∧ (bst p lt n = -4 ∨ lt n (bst p lt n))
    · rw [e, cif_t hc]
      exact Or.inr ⟨by omega, by omega, hc.1⟩
    · rw [e, cif_f hc]
      rcases h with h | ⟨h1, h2, h3⟩
      · exact Or.inl h
      · exact Or.inr ⟨h1, by omega, h3⟩
theorem bst_some {p : Int → Prop} {lt : Int → Int → Prop} : ∀ {n : Nat}, anyW p n → bst p lt n ≠ -4
  | 0, ⟨w, h1, h2, _⟩ => by omega
  | n + 1, ⟨w, h1, h2, h3⟩ => by
    have e : bst p lt (n + 1) = cif (p n ∧ (bst p lt n = -4 ∨ lt n (bst p lt n))) (n : Int) (bst p lt n) := rfl
    by_cases hc : p n ∧ (bst p lt n = -4 ∨ lt n (bst p lt n))
    · rw [e, cif_t hc]; omega
    · rw [e, cif_f hc]
      by_cases hw : w = n
      · subst hw
        intro hb
        exact hc ⟨h3, Or.inl hb⟩
      · exact bst_some ⟨w, h1, by omega, h3⟩
def hasO (I : Mm) (h : Int) : Prop := anyW (fun w => opn I w ∧ I 55 (13 * w + 8) = h) (I 49 6)
noncomputable def mkN (I : Mm) : Int := bst (fun w => I 55 (13 * w + 12) = 1 ∧ hasO I (I 55 (13 * w + 8))) (fun w b => rk I w 1 < rk I b 1) (I 49 6).toNat
noncomputable def wOf (I : Mm) (h : Int) : Int := bst (fun w => opn I w ∧ I 55 (13 * w + 8) = h) (fun w b => rk I w 0 < rk I b 0) (I 49 6).toNat
noncomputable def grt (I : Mm) : Int := bst (fun w => I 55 (13 * w + 9) = 0) (fun w b => rk I b 0 ≤ rk I w 0) (I 49 6).toNat
noncomputable def lstW (p : Int → Prop) (n : Nat) : Int := fld (fun b w => cif (p w) w b) (-4) n
noncomputable def ofM (I : Mm) : Int × Int := fld (fun q s => cif (q.1 < cntW (fun w => I 55 (13 * w + 9) = 0 ∧ I 55 (13 * w + 6) = s) (I 49 6).toNat) (cntW (fun w => I 55 (13 * w + 9) = 0 ∧ I 55 (13 * w + 6) = s) (I 49 6).toNat, lstW (fun w => I 55 (13 * w + 9) = 0 ∧ I 55 (13 * w + 6) = s) (I 49 6).toNat) q) (-4, -4) 8
def isInS (I : Mm) (s : Int) : Prop := 0 < I 54 s ∨ anyW (fun w => I 55 (13 * w + 9) = 0 ∧ I 55 (13 * w + 6) = s) (I 49 6)
theorem anyW_mono {p : Int → Prop} {m n : Int} (h : anyW p m) (hmn : m ≤ n) : anyW p n := by
  obtain ⟨w, h1, h2, h3⟩ := h
  exact ⟨w, h1, by omega, h3⟩
theorem anyW_s {p : Int → Prop} {i : Int} (hi : 0 ≤ i) : anyW p (i + 1) ↔ anyW p i ∨ p i := by
  constructor
  · rintro ⟨w, h1, h2, h3⟩
    by_cases hw : w = i
    · subst hw; exact Or.inr h3
    · exact Or.inl ⟨w, h1, by omega, h3⟩
  · rintro (⟨w, h1, h2, h3⟩ | h)
    · exact ⟨w, h1, by omega, h3⟩
    · exact ⟨i, hi, by omega, h⟩
theorem anyW_0 {p : Int → Prop} : ¬ anyW p 0 := by
  rintro ⟨w, h1, h2, h3⟩
  omega
theorem bst_i {p : Int → Prop} {lt : Int → Int → Prop} {m : Int} (hm : m ≤ 1000) : -2147483648 ≤ bst p lt m.toNat ∧ bst p lt m.toNat ≤ 2147483647 := by
  rcases bst_r p lt m.toNat with h | ⟨h1, h2, -⟩ <;> omega
