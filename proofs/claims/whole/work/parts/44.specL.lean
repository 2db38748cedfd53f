/-! ===== rows of words: twice, which rule makes them ===== -/
def dup (g : Int → Int) (n : Int) : Prop := ∃ a b : Int, 0 ≤ a ∧ a < b ∧ b < n ∧ g a = g b
theorem dup_s {g : Int → Int} {n : Int} (h : 0 ≤ n) : dup g (n + 1) ↔ dup g n ∨ ∃ a : Int, 0 ≤ a ∧ a < n ∧ g a = g n := by
  constructor
  · rintro ⟨a, b, h1, h2, h3, h4⟩
    by_cases hb : b = n
    · subst hb; exact Or.inr ⟨a, h1, h2, h4⟩
    · exact Or.inl ⟨a, b, h1, h2, by omega, h4⟩
  · rintro (⟨a, b, h1, h2, h3, h4⟩ | ⟨a, h1, h2, h3⟩)
    · exact ⟨a, b, h1, h2, by omega, h4⟩
    · exact ⟨a, n, h1, h2, by omega, h3⟩
theorem ex_s {p : Int → Prop} {n : Int} (h : 0 ≤ n) : (∃ a : Int, 0 ≤ a ∧ a < n + 1 ∧ p a) ↔ (∃ a : Int, 0 ≤ a ∧ a < n ∧ p a) ∨ p n := by
  constructor
  · rintro ⟨a, h1, h2, h3⟩
    by_cases ha : a = n
    · subst ha; exact Or.inr h3
    · exact Or.inl ⟨a, h1, by omega, h3⟩
  · rintro (⟨a, h1, h2, h3⟩ | h3)
    · exact ⟨a, h1, by omega, h3⟩
    · exact ⟨n, h, by omega, h3⟩
theorem dup_cong {g h : Int → Int} {n : Int} (hg : ∀ q : Int, 0 ≤ q → q < n → g q = h q) : dup g n ↔ dup h n := by
  constructor
  · rintro ⟨a, b, h1, h2, h3, h4⟩
    exact ⟨a, b, h1, h2, h3, by rw [← hg a h1 (by omega), ← hg b (by omega) h3]; exact h4⟩
  · rintro ⟨a, b, h1, h2, h3, h4⟩
    exact ⟨a, b, h1, h2, h3, by rw [hg a h1 (by omega), hg b (by omega) h3]; exact h4⟩
def tm (k : Int) : Int := 10 * (k % 4 + 1) + k / 4 + 1
def vv (I : Mm) (o a b : Int) : Int := o / 10 * (I 55 (13 * b + (o % 10 - 1)) - I 55 (13 * a + (o % 10 - 1)))
noncomputable def v2 (I : Mm) (o t a b : Int) : Int := vv I o a b + cif (t = 0) 0 (vv I t a b)
def okM (I : Mm) (o t a b : Int) : Prop := ¬ (v2 I o t a b < 0 ∨ (v2 I o t a b = 0 ∧ b < a))
def mks (I : Mm) (g : Int → Int) (n o t : Int) : Prop := ∀ k : Int, 1 ≤ k → k < n → okM I o t (g (k - 1)) (g k)
theorem mks_cong {I J : Mm} {g h : Int → Int} {n o t : Int} (hI : I 55 = J 55) (hg : ∀ q : Int, 0 ≤ q → q < n → g q = h q) : mks I g n o t ↔ mks J h n o t := by
  have e : ∀ a b, okM I o t a b ↔ okM J o t a b := by
    intro a b
    unfold okM v2 vv
    rw [hI]
  constructor
  · intro q k k0 k1
    rw [← hg (k - 1) (by omega) (by omega), ← hg k (by omega) k1]
    exact (e _ _).mp (q k k0 k1)
  · intro q k k0 k1
    rw [hg (k - 1) (by omega) (by omega), hg k (by omega) k1]
    exact (e _ _).mpr (q k k0 k1)
/-- a term's two digits -/
def okT (o : Int) : Prop := 11 ≤ o ∧ o ≤ 44 ∧ 1 ≤ o % 10 ∧ o % 10 ≤ 4
theorem tm_ok {k : Int} (h0 : 0 ≤ k) (h1 : k < 16) : okT (tm k) := by
  unfold okT tm
  have h2 : 0 ≤ k % 4 ∧ k % 4 ≤ 3 := by omega
  have h3 : 0 ≤ k / 4 ∧ k / 4 ≤ 3 := by omega
  generalize k % 4 = a at *
  generalize k / 4 = b at *
  have h4 : (10 * (a + 1) + b + 1) % 10 = b + 1 := by omega
  rw [h4]
  omega
/-- the first place with p, or -1 -/
noncomputable def fstA (p : Int → Prop) (n : Nat) : Int := fld (fun r i => cif (r = -1 ∧ p i) i r) (-1) n
theorem fstA_none {p : Int → Prop} : ∀ {n : Nat}, (∀ j : Int, 0 ≤ j → j < n → ¬ p j) → fstA p n = -1
  | 0, _ => rfl
  | n + 1, h => by
    have e : fstA p (n + 1) = cif (fstA p n = -1 ∧ p n) (n : Int) (fstA p n) := rfl
    rw [e, fstA_none (n := n) (fun j j0 j1 => h j j0 (by omega)), cif_f (fun q => h n (by omega) (by omega) q.2)]
theorem fstA_some {p : Int → Prop} {i : Int} (hi : 0 ≤ i) (hp : p i) (hb : ∀ j : Int, 0 ≤ j → j < i → ¬ p j) : ∀ {n : Nat}, i < n → fstA p n = i
  | 0, h => by omega
  | n + 1, h => by
    have e : fstA p (n + 1) = cif (fstA p n = -1 ∧ p n) (n : Int) (fstA p n) := rfl
    by_cases hin : i = n
    · subst hin
      rw [e, fstA_none hb, cif_t ⟨rfl, hp⟩]
    · rw [e, fstA_some hi hp hb (n := n) (by omega), cif_f (by omega)]
noncomputable def okWs (I : Mm) (s i n : Int) : Prop := ∀ k : Int, 0 ≤ k → k < n → 0 ≤ I 60 (24 * s + (i + k)) ∧ I 60 (24 * s + (i + k)) ≤ I 49 6 - 1
noncomputable def fndF (I : Mm) (g : Int → Int) (n : Int) : Int := cif (fstA (fun a => mks I g n (tm a) 0) 16 ≠ -1) (tm (fstA (fun a => mks I g n (tm a) 0) 16)) (cif (fstA (fun a => mks I g n (tm (a / 16)) (tm (a % 16))) 256 ≠ -1) (100 * tm (fstA (fun a => mks I g n (tm (a / 16)) (tm (a % 16))) 256 / 16) + tm (fstA (fun a => mks I g n (tm (a / 16)) (tm (a % 16))) 256 % 16)) (-4))
noncomputable def aFound (I : Mm) (s lane i n : Int) : Int := cif ((0 ≤ s ∧ s ≤ 3) ∧ (0 ≤ lane ∧ lane ≤ 2) ∧ (2 ≤ n ∧ n ≤ 8)) (cif (wrF I s lane i n = 1) (cif (okWs I s i n ∧ ¬ dup (itm I s i) n) (fndF I (itm I s i) n) (-2)) (wrF I s lane i n)) (-1)
