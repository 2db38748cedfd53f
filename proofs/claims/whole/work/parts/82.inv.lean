/-! ===== the class beside the reference: what holds between two calls ===== -/
abbrev mny (I : Mm) : Int := I 49 6
abbrev how (I : Mm) (w : Int) : Int := I 55 (13 * w + 9)
/-- p's places up to m stand in the row, in order, as words -/
def enm (p : Int → Prop) (m : Int) (row : Int → Int) (n : Int) : Prop := n = cntW p m.toNat ∧ ∀ w : Int, 0 ≤ w → w < m → p w → row (cntW p w.toNat) = 67 + w
/-- streams -/
def CSt (I : Mm) : Prop := ∀ s : Int, 0 ≤ s → s ≤ 7 → (∀ k : Int, 0 ≤ k → k ≤ 6 → I (26 + 2 * s) k = I 50 (7 * s + k)) ∧ I (25 + 2 * s) 2 = I 51 s ∧ I (25 + 2 * s) 3 = I 52 s ∧ I (25 + 2 * s) 4 = I 53 s ∧ I (25 + 2 * s) 5 = I 54 s
/-- sheets -/
def CSh (I : Mm) : Prop := ∀ s : Int, 0 ≤ s → s ≤ 3 → ((I 58 s = -4 ∧ I (41 + 2 * s) 1 = -1) ∨ (0 ≤ I 58 s ∧ I 58 s ≤ 2 ∧ I (41 + 2 * s) 1 = I 58 s)) ∧ I (41 + 2 * s) 2 = I 59 s ∧ (0 ≤ I 59 s ∧ I 59 s ≤ 24) ∧ ∀ q : Int, 0 ≤ q → q ≤ 23 → I (42 + 2 * s) q = I 60 (24 * s + q)
/-- the tape -/
def CTp (I : Mm) : Prop := I 4 1 = I 49 20 ∧ (∀ q : Int, 0 ≤ q → q < I 49 20 → I 5 q = I 62 q ∧ 32 ≤ I 62 q ∧ I 62 q ≤ 126) ∧ ∀ q : Int, -600 ≤ I 6 q ∧ I 6 q ≤ 600
/-- the rules -/
def CRu (I : Mm) : Prop := ∀ k : Int, 0 ≤ k → k ≤ 5 → I 8 k = I 57 k ∧ I 10 k = I 57 (6 + k)
/-- the words -/
def CWd (I : Mm) : Prop := ∀ w : Int, 0 ≤ w → w < I 49 6 → (I 3 w = 67 + w ∧ I (67 + w) 0 = w ∧ I (67 + w) 1 = I 55 (13 * w + 6) ∧ I (67 + w) 2 = I 55 (13 * w + 8) ∧ I (67 + w) 3 = I 55 (13 * w + 0) ∧ I (67 + w) 4 = I 55 (13 * w + 1) ∧ I (67 + w) 5 = I 55 (13 * w + 2) ∧ I (67 + w) 6 = I 55 (13 * w + 3) ∧ I (67 + w) 7 = I 55 (13 * w + 4) ∧ I (67 + w) 8 = I 55 (13 * w + 5) ∧ I (67 + w) 9 = I 55 (13 * w + 7) ∧ I (67 + w) 10 = I 55 (13 * w + 9)) ∧
  (I 55 (13 * w + 9) = 1 ∨ I 55 (13 * w + 9) = 2 → I (67 + w) 11 = I 55 (13 * w + 10) ∧ (0 ≤ I 55 (13 * w + 10) ∧ I 55 (13 * w + 10) ≤ I 49 7) ∧ (0 ≤ I (67 + w) 12 ∧ I (67 + w) 12 < I 49 11) ∧ I 56 (I (67 + w) 12) = w) ∧
  (I 55 (13 * w + 9) = 0 ∨ I 55 (13 * w + 9) = 3 → I 55 (13 * w + 10) = -4) ∧ (I 55 (13 * w + 9) = 2 → I 55 (13 * w + 11) = I 55 (13 * w + 10) + I 55 (13 * w + 1))
/-- the port -/
def CPo (I : Mm) : Prop := I 0 3 = I 49 6 ∧ I 11 6 = I 49 7 ∧ I 11 7 = I 49 8 ∧ I 11 3 = I 49 12 ∧ I 11 4 = I 49 13 ∧ I 11 2 = I 49 11 ∧ I 11 8 = cntW (fun w => I 55 (13 * w + 9) = 2) (I 49 6).toNat ∧ I 11 9 = cntW (fun w => I 55 (13 * w + 9) = 3) (I 49 6).toNat ∧ I 49 11 = cntW (fun w => I 55 (13 * w + 9) = 1 ∨ I 55 (13 * w + 9) = 2) (I 49 6).toNat ∧
  ((I 49 9 = -4 ∧ I 11 5 = -1 ∧ ∀ w : Int, 0 ≤ w → w < I 49 6 → I 55 (13 * w + 9) ≠ 1) ∨ ((0 ≤ I 49 9 ∧ I 49 9 < I 49 6) ∧ I 11 5 = 67 + I 49 9 ∧ I 55 (13 * I 49 9 + 9) = 1 ∧ (∀ w : Int, 0 ≤ w → w < I 49 6 → I 55 (13 * w + 9) = 1 → w = I 49 9) ∧ I 49 7 < I 55 (13 * I 49 9 + 10) + I 55 (13 * I 49 9 + 1)))
/-- the row of turns -/
def CTu (I : Mm) : Prop := ∀ i : Int, 0 ≤ i → i < I 49 11 → (0 ≤ I 56 i ∧ I 56 i < I 49 6) ∧ I 17 i = 67 + I 56 i ∧ (I 55 (13 * I 56 i + 9) = 1 ∨ I 55 (13 * I 56 i + 9) = 2) ∧ I (67 + I 56 i) 12 = i
/-- what waits -/
def CLi (I : Mm) : Prop := enm (fun w => I 55 (13 * w + 9) = 0) (I 49 6) (I 14) (I 13 1) ∧ enm (fun w => I 55 (13 * w + 12) = 1) (I 49 6) (I 16) (I 15 1) ∧ I 13 1 ≤ 24 ∧ ∀ h : Int, cntW (fun w => I 55 (13 * w + 12) = 1 ∧ I 55 (13 * w + 8) = h) (I 49 6).toNat = cntW (fun w => I 55 (13 * w + 9) = 0 ∧ I 55 (13 * w + 8) = h) (I 49 6).toNat
def Inv (I : Mm) (N : Int) : Prop := N = 67 + I 49 6 ∧ Fx I ∧ SN I ∧ SS I ∧ SW I ∧ SetOK I ∧ CSt I ∧ CSh I ∧ CTp I ∧ CRu I ∧ CWd I ∧ CPo I ∧ CTu I ∧ CLi I
section IV
variable {I : Mm} {N : Int}
theorem Inv.n (h : Inv I N) : N = 67 + I 49 6 := h.1
theorem Inv.fx (h : Inv I N) : Fx I := h.2.1
theorem Inv.sn (h : Inv I N) : SN I := h.2.2.1
theorem Inv.ss (h : Inv I N) : SS I := h.2.2.2.1
theorem Inv.sw (h : Inv I N) : SW I := h.2.2.2.2.1
theorem Inv.set (h : Inv I N) : SetOK I := h.2.2.2.2.2.1
theorem Inv.st (h : Inv I N) : CSt I := h.2.2.2.2.2.2.1
theorem Inv.sh (h : Inv I N) : CSh I := h.2.2.2.2.2.2.2.1
theorem Inv.tp (h : Inv I N) : CTp I := h.2.2.2.2.2.2.2.2.1
theorem Inv.ru (h : Inv I N) : CRu I := h.2.2.2.2.2.2.2.2.2.1
theorem Inv.wd (h : Inv I N) : CWd I := h.2.2.2.2.2.2.2.2.2.2.1
theorem Inv.po (h : Inv I N) : CPo I := h.2.2.2.2.2.2.2.2.2.2.2.1
theorem Inv.tu (h : Inv I N) : CTu I := h.2.2.2.2.2.2.2.2.2.2.2.2.1
theorem Inv.li (h : Inv I N) : CLi I := h.2.2.2.2.2.2.2.2.2.2.2.2.2
end IV
/-! ===== counting ===== -/
theorem cntW_c {p q : Int → Prop} : ∀ {n : Nat}, (∀ w : Int, 0 ≤ w → w < n → (p w ↔ q w)) → cntW p n = cntW q n
  | 0, _ => rfl
  | n + 1, h => by
    have e : ∀ p : Int → Prop, cntW p (n + 1) = cntW p n + cif (p n) 1 0 := fun _ => rfl
    rw [e, e, cntW_c (n := n) (fun w h0 h1 => h w h0 (by omega)), cif_iff (h n (by omega) (by omega))]
theorem cntW_mono (p : Int → Prop) {m n : Nat} (h : m ≤ n) : cntW p m ≤ cntW p n := by
  induction n with
  | zero => have : m = 0 := by omega
            subst this; exact Int.le_refl _
  | succ n ih =>
    have e : cntW p (n + 1) = cntW p n + cif (p n) 1 0 := rfl
    have := cif01 (p n)
    by_cases hm : m = n + 1
    · subst hm; exact Int.le_refl _
    · have := ih (by omega); omega
/-- one that has p stands before those that come behind it -/
theorem cntW_lt {p : Int → Prop} {w : Int} {n : Nat} (h0 : 0 ≤ w) (h1 : w < n) (hp : p w) : cntW p w.toNat < cntW p n := by
  have e := cntW_s p h0
  rw [cif_t hp] at e
  have := cntW_mono p (show (w + 1).toNat ≤ n by omega)
  omega
theorem cntW_inj {p : Int → Prop} {v w : Int} (hv : 0 ≤ v) (hw : 0 ≤ w) (pv : p v) (pw : p w) (h : cntW p v.toNat = cntW p w.toNat) : v = w := by
  rcases Int.lt_trichotomy v w with c | c | c
  · have := cntW_lt (n := w.toNat) hv (by omega) pv; omega
  · exact c
  · have := cntW_lt (n := v.toNat) hw (by omega) pw; omega
/-- every place of the row is some word's -/
theorem cntW_sur (p : Int → Prop) : ∀ {n : Nat} {i : Int}, 0 ≤ i → i < cntW p n → ∃ w : Int, 0 ≤ w ∧ w < n ∧ p w ∧ cntW p w.toNat = i
  | 0, i, h0, h1 => by have : cntW p 0 = 0 := rfl; omega
  | n + 1, i, h0, h1 => by
    have e : cntW p (n + 1) = cntW p n + cif (p n) 1 0 := rfl
    by_cases c : i < cntW p n
    · obtain ⟨w, a, b, d, f⟩ := cntW_sur p h0 c
      exact ⟨w, a, by omega, d, f⟩
    · by_cases hp : p n
      · rw [cif_t hp] at e
        exact ⟨n, by omega, by omega, hp, by rw [Int.toNat_natCast]; omega⟩
      · rw [cif_f hp] at e; omega
theorem cntW_0 {p : Int → Prop} : ∀ {n : Nat}, (∀ w : Int, 0 ≤ w → w < n → ¬ p w) → cntW p n = 0
  | 0, _ => rfl
  | n + 1, h => by
    have e : cntW p (n + 1) = cntW p n + cif (p n) 1 0 := rfl
    rw [e, cntW_0 (n := n) (fun w h0 h1 => h w h0 (by omega)), cif_f (h n (by omega) (by omega))]
    rfl
theorem cntW_pos {p : Int → Prop} {n : Nat} : 0 < cntW p n ↔ ∃ w : Int, 0 ≤ w ∧ w < n ∧ p w := by
  constructor
  · intro h
    obtain ⟨w, a, b, c, -⟩ := cntW_sur p (i := 0) (by omega) h
    exact ⟨w, a, b, c⟩
  · rintro ⟨w, a, b, c⟩
    have := cntW_lt a b c
    have := cntW_b p w.toNat
    omega
theorem cntW_add {p q r : Int → Prop} : ∀ {n : Nat}, (∀ w : Int, 0 ≤ w → w < n → (r w ↔ p w ∨ q w) ∧ ¬ (p w ∧ q w)) → cntW r n = cntW p n + cntW q n
  | 0, _ => rfl
  | n + 1, h => by
    have e : ∀ p : Int → Prop, cntW p (n + 1) = cntW p n + cif (p n) 1 0 := fun _ => rfl
    rw [e, e, e, cntW_add (n := n) (fun w h0 h1 => h w h0 (by omega))]
    obtain ⟨h1, h2⟩ := h n (by omega) (by omega)
    by_cases hp : p n
    · rw [cif_t (h1.mpr (Or.inl hp)), cif_t hp, cif_f (fun q => h2 ⟨hp, q⟩)]; omega
    · by_cases hq : q n
      · rw [cif_t (h1.mpr (Or.inr hq)), cif_f hp, cif_t hq]; omega
      · rw [cif_f (fun r => (h1.mp r).elim hp hq), cif_f hp, cif_f hq]; omega
/-- one leaves -/
theorem cntW_del {p q : Int → Prop} {v : Int} (hv : p v) (h0 : 0 ≤ v) : ∀ {n : Nat}, (∀ w : Int, 0 ≤ w → w < n → (q w ↔ p w ∧ w ≠ v)) → cntW q n = cntW p n - cif (v < n) 1 0
  | 0, _ => by rw [cif_f (by omega)]; rfl
  | n + 1, h => by
    have e : ∀ p : Int → Prop, cntW p (n + 1) = cntW p n + cif (p n) 1 0 := fun _ => rfl
    rw [e, e, cntW_del hv h0 (n := n) (fun w a b => h w a (by omega))]
    have h1 := h n (by omega) (by omega)
    by_cases hn : v = n
    · subst hn
      rw [cif_f (by omega), cif_f (fun r => (h1.mp r).2 rfl), cif_t hv, cif_t (by omega)]; omega
    · by_cases hp : p n
      · rw [cif_t (h1.mpr ⟨hp, fun r => hn r.symm⟩), cif_t hp]
        by_cases c : v < n
        · rw [cif_t c, cif_t (by omega)]; omega
        · rw [cif_f c, cif_f (by omega)]; omega
      · rw [cif_f (fun r => hp (h1.mp r).1), cif_f hp]
        by_cases c : v < n
        · rw [cif_t c, cif_t (by omega)]; omega
        · rw [cif_f c, cif_f (by omega)]; omega
/-- folding over the row is folding over all, those without p changing nothing -/
theorem enm_sim {α β : Type} {p : Int → Prop} (R : α → β → Prop) (g : α → Int → α) (h : β → Int → β) : ∀ (n : Nat) (a0 : α) (b0 : β), R a0 b0 → (∀ (w : Int) (a : α) (b : β), 0 ≤ w → w < n → p w → R a b → R (g a (cntW p w.toNat)) (h b w)) → (∀ (w : Int) (a : α) (b : β), 0 ≤ w → w < n → ¬ p w → R a b → R a (h b w)) → R (fld g a0 (cntW p n).toNat) (fld h b0 n)
  | 0, a0, b0, h0, _, _ => h0
  | n + 1, a0, b0, h0, hy, hn => by
    have ih := enm_sim R g h n a0 b0 h0 (fun w a b w0 w1 => hy w a b w0 (by omega)) (fun w a b w0 w1 => hn w a b w0 (by omega))
    have e : cntW p (n + 1) = cntW p n + cif (p n) 1 0 := rfl
    have hb := cntW_b p n
    by_cases hp : p n
    · rw [e, cif_t hp, fld_s _ _ hb.1]
      have := hy n _ _ (by omega) (by omega) hp ih
      rw [Int.toNat_natCast] at this
      exact this
    · rw [e, cif_f hp, Int.add_zero]
      exact hn n _ _ (by omega) (by omega) hp ih
theorem enm.at {p : Int → Prop} {m : Int} {row : Int → Int} {n : Int} (h : enm p m row n) (hm : 0 ≤ m) {i : Int} (h0 : 0 ≤ i) (h1 : i < n) : ∃ w : Int, 0 ≤ w ∧ w < m ∧ p w ∧ cntW p w.toNat = i ∧ row i = 67 + w := by
  obtain ⟨w, a, b, c, d⟩ := cntW_sur p h0 (by rw [← h.1]; exact h1)
  exact ⟨w, a, by omega, c, d, by rw [← d]; exact h.2 w a (by omega) c⟩
