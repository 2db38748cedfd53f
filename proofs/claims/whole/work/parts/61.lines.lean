/-- a trait of the word at the cell a -/
noncomputable def trt (I : Mm) (a k : Int) : Int := cif (k = 0) (I a 3) (cif (k = 1) (I a 4) (cif (k = 2) (I a 5) (cif (k = 3) (I a 6) (cif (k = 5) (I a 8) (I a 7)))))
theorem trt_r {I : Mm} (hF : Fx I) (a k : Int) : -2147483648 ≤ trt I a k ∧ trt I a k ≤ 2147483647 := by
  have q : ∀ j : Int, -2147483648 ≤ I a j ∧ I a j ≤ 2147483647 := hF.2.1 a
  have key : ∀ (p : Prop) (u v : Int), (-2147483648 ≤ u ∧ u ≤ 2147483647) → (-2147483648 ≤ v ∧ v ≤ 2147483647) → -2147483648 ≤ cif p u v ∧ cif p u v ≤ 2147483647 := by
    intro p u v hu hv
    by_cases h : p
    · rw [cif_t h]; exact hu
    · rw [cif_f h]; exact hv
  unfold trt
  exact key _ _ _ (q 3) (key _ _ _ (q 4) (key _ _ _ (q 5) (key _ _ _ (q 6) (key _ _ _ (q 8) (q 7)))))
/-- the rank of the word at a by the rule whose weights lie at c -/
noncomputable def crk (I : Mm) (c a : Int) : Int := fld (fun s k => s + I c k * trt I a k) 0 6
theorem crk_b {I : Mm} (hF : Fx I) {c : Int} (hc : c = 8 ∨ c = 10) (a : Int) : -8000000000000 ≤ crk I c a ∧ crk I c a ≤ 8000000000000 := by
  have key : ∀ n : Nat, n ≤ 6 → -(1288490188800 * n) ≤ fld (fun s k => s + I c k * trt I a k) 0 n ∧ fld (fun s k => s + I c k * trt I a k) 0 n ≤ 1288490188800 * n := by
    intro n
    induction n with
    | zero => intro _; exact ⟨Int.le_refl _, Int.le_refl _⟩
    | succ n ih =>
      intro h
      have h1 := ih (by omega)
      have h2 := hF.2.2 c n (by omega)
      have h3 := trt_r hF a n
      have h4 := mulb (A := 600) (B := 2147483648) (a := I c n) (b := trt I a n) h2 (by omega)
      have e : fld (fun s k => s + I c k * trt I a k) 0 (n + 1) = fld (fun s k => s + I c k * trt I a k) 0 n + I c n * trt I a n := rfl
      rw [e]
      omega
  have := key 6 (Nat.le_refl _)
  unfold crk
  omega
/-- the line whose object is c (its row at r): what stands at i -/
noncomputable def lnA (I : Mm) (c r i : Int) : Int := cif (0 ≤ i ∧ i < I c 1 ∧ i < 25) (I r i) (-1)
/-- a line as it must be: its size, its words -/
def LnC (I : Mm) (N c r : Int) : Prop := (0 ≤ I c 1 ∧ I c 1 ≤ 25) ∧ ∀ i : Int, 0 ≤ i → i < I c 1 → 67 ≤ I r i ∧ I r i < N
/-- one is taken out of a line -/
noncomputable def rmL (I : Mm) (c r i : Int) : Mm := fun a q => cif (a = r) (cif (i ≤ q ∧ q < I c 1 - 1) (I r (q + 1)) (cif (q = I c 1 - 1) (-1) (I r q))) (cif (a = c ∧ q = 1) (I c 1 - 1) (I a q))
/-- on the way: the places from i up to k are shifted -/
noncomputable def rmK (I : Mm) (r i k : Int) : Mm := fun a q => cif (a = r ∧ i ≤ q ∧ q < k) (I r (q + 1)) (I a q)
theorem rmK_0 (I : Mm) (r i : Int) : rmK I r i i = I := by
  funext a q
  unfold rmK
  rw [cif_f (by omega)]
theorem rmK_s {I : Mm} {r i k : Int} (h : i ≤ k) : up (rmK I r i k) r k (rmK I r i k r (k + 1)) = rmK I r i (k + 1) := by
  funext a q
  rw [up_def]
  by_cases c : a = r ∧ q = k
  · rw [if_pos c, c.2]
    unfold rmK
    rw [cif_f (by omega), cif_t (by omega)]
  · rw [if_neg c]
    unfold rmK
    by_cases c2 : a = r ∧ i ≤ q ∧ q < k
    · rw [cif_t c2, cif_t (by omega)]
    · rw [cif_f c2, cif_f (by omega)]
theorem rmK_n {I : Mm} {r i k a q : Int} (h : a ≠ r) : rmK I r i k a q = I a q := by
  unfold rmK
  rw [cif_f (fun c => h c.1)]
theorem rmL_eq {I : Mm} {c r i : Int} (hcr : c ≠ r) : up (up (rmK I r i (I c 1 - 1)) c 1 (I c 1 - 1)) r (I c 1 - 1) (-1) = rmL I c r i := by
  funext a q
  unfold rmL
  rw [up_def]
  by_cases h : a = r
  · subst h
    rw [cif_t rfl]
    by_cases h1 : q = I c 1 - 1
    · rw [if_pos ⟨rfl, h1⟩, cif_f (by omega), cif_t h1]
    · rw [if_neg (fun x => h1 x.2), up_c (Ne.symm hcr)]
      unfold rmK
      by_cases h2 : i ≤ q ∧ q < I c 1 - 1
      · rw [cif_t ⟨rfl, h2⟩, cif_t h2]
      · rw [cif_f (fun x => h2 x.2), cif_f h2, cif_f h1]
  · rw [if_neg (fun x => h x.1), cif_f h, up_def]
    by_cases h1 : a = c ∧ q = 1
    · rw [if_pos h1, cif_t h1]
    · rw [if_neg h1, cif_f h1, rmK_n h]
