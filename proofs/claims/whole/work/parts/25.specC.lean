/-! ===== the reference's state: bounds; a word comes, one is dropped ===== -/
theorem V_topI {x : Cx} {z : Nat} {Po : Pst} {N : Int} {I : Mm} {k n pc : Nat} {L : List (Option Value)} {st : List Value} {a : Int} (b : Int) (e : a = b) (kk : V x z Po N I k n pc L (vI b :: st)) : V x z Po N I k n pc L (vI a :: st) := e ▸ kk
theorem V_mem {x : Cx} {z : Nat} {Po : Pst} {N : Int} {I : Mm} {k n pc : Nat} {L : List (Option Value)} {st : List Value} (J : Mm) (e : I = J) (kk : V x z Po N J k n pc L st) : V x z Po N I k n pc L st := e ▸ kk
theorem up_c {I : Mm} {a k v a' k' : Int} (h : a' ≠ a) : up I a k v a' k' = I a' k' := up_n (Or.inl h)
theorem up_k {I : Mm} {a k v a' k' : Int} (h : k' ≠ k) : up I a k v a' k' = I a' k' := up_n (Or.inr h)
theorem cntW_s (p : Int → Prop) {i : Int} (h : 0 ≤ i) : cntW p (i + 1).toNat = cntW p i.toNat + cif (p i) 1 0 := fld_s _ _ h
theorem lstW_s (p : Int → Prop) {i : Int} (h : 0 ≤ i) : lstW p (i + 1).toNat = cif (p i) i (lstW p i.toNat) := fld_s _ _ h
theorem lstW_r (p : Int → Prop) : ∀ n : Nat, (lstW p n = -4 ∧ ¬ anyW p n) ∨ (0 ≤ lstW p n ∧ lstW p n < n ∧ p (lstW p n) ∧ ∀ w : Int, lstW p n < w → w < n → ¬ p w)
  | 0 => Or.inl ⟨rfl, anyW_0⟩
  | n + 1 => by
    have e : lstW p (n + 1) = cif (p n) (n : Int) (lstW p n) := rfl
    by_cases hc : p n
    · rw [e, cif_t hc]
      exact Or.inr ⟨by omega, by omega, hc, fun w h1 h2 => by omega⟩
    · rw [e, cif_f hc]
      rcases lstW_r p n with ⟨h1, h2⟩ | ⟨h1, h2, h3, h4⟩
      · refine Or.inl ⟨h1, fun ⟨w, q1, q2, q3⟩ => ?_⟩
        by_cases hw : w = n
        · subst hw; exact hc q3
        · exact h2 ⟨w, q1, by omega, q3⟩
      · refine Or.inr ⟨h1, by omega, h3, fun w q1 q2 => ?_⟩
        by_cases hw : w = n
        · subst hw; exact hc
        · exact h4 w q1 (by omega)
def SetOK (I : Mm) : Prop := ∀ s k : Int, 0 ≤ s → s ≤ 7 → 0 ≤ k → k ≤ 6 → okSet k (I 50 (7 * s + k))
theorem SetOK.at {I : Mm} (h : SetOK I) {s : Int} (h0 : 0 ≤ s) (h1 : s ≤ 7) : (0 ≤ I 50 (7 * s + 0) ∧ I 50 (7 * s + 0) ≤ 9) ∧ (1 ≤ I 50 (7 * s + 1) ∧ I 50 (7 * s + 1) ≤ 16) ∧ (0 ≤ I 50 (7 * s + 2) ∧ I 50 (7 * s + 2) ≤ 999) ∧ (0 ≤ I 50 (7 * s + 3) ∧ I 50 (7 * s + 3) ≤ 99) ∧ (0 ≤ I 50 (7 * s + 4) ∧ I 50 (7 * s + 4) ≤ 3) ∧ (0 ≤ I 50 (7 * s + 5) ∧ I 50 (7 * s + 5) ≤ 999) ∧ (0 ≤ I 50 (7 * s + 6) ∧ I 50 (7 * s + 6) ≤ 16) := by
  have a0 := h s 0 h0 h1 (by decide) (by decide)
  have a1 := h s 1 h0 h1 (by decide) (by decide)
  have a2 := h s 2 h0 h1 (by decide) (by decide)
  have a3 := h s 3 h0 h1 (by decide) (by decide)
  have a4 := h s 4 h0 h1 (by decide) (by decide)
  have a5 := h s 5 h0 h1 (by decide) (by decide)
  have a6 := h s 6 h0 h1 (by decide) (by decide)
  unfold okSet at a0 a1 a2 a3 a4 a5 a6
  refine ⟨by omega, by omega, by omega, by omega, by omega, by omega, by omega⟩
/-- the numbers of the state -/
def SN (I : Mm) : Prop := (0 ≤ I 49 6 ∧ I 49 6 ≤ 1000) ∧ (0 ≤ I 49 7 ∧ I 49 7 ≤ 99999) ∧ (0 ≤ I 49 8 ∧ I 49 8 ≤ 1584 * I 49 6) ∧ (1 ≤ I 49 12 ∧ I 49 12 ≤ 24) ∧ (0 ≤ I 49 13 ∧ I 49 13 ≤ 2) ∧ (0 ≤ I 49 20 ∧ I 49 20 ≤ 40) ∧ (I 49 9 = -4 ∨ 0 ≤ I 49 9 ∧ I 49 9 < I 49 6)
/-- the streams' numbers -/
def SS (I : Mm) : Prop := ∀ s : Int, 0 ≤ s → s ≤ 7 → (0 ≤ I 51 s ∧ I 51 s ≤ 1584 * I 49 6) ∧ (0 ≤ I 52 s ∧ I 52 s ≤ 99999 + 99 * I 49 6) ∧ (0 ≤ I 53 s ∧ I 53 s ≤ I 49 6) ∧ (0 ≤ I 54 s ∧ I 54 s ≤ 99 * cntW (fun w => I 55 (13 * w + 9) = 2) (I 49 6).toNat)
/-- the words' numbers -/
def SW (I : Mm) : Prop := ∀ w : Int, 0 ≤ w → w < I 49 6 → (0 ≤ I 55 (13 * w + 0) ∧ I 55 (13 * w + 0) ≤ 9) ∧ (1 ≤ I 55 (13 * w + 1) ∧ I 55 (13 * w + 1) ≤ 99) ∧ (0 ≤ I 55 (13 * w + 2) ∧ I 55 (13 * w + 2) ≤ I 49 7) ∧ (I 55 (13 * w + 2) ≤ I 55 (13 * w + 3) ∧ I 55 (13 * w + 3) ≤ I 49 7 + 999) ∧ (0 ≤ I 55 (13 * w + 4) ∧ I 55 (13 * w + 4) ≤ 1000) ∧ (0 ≤ I 55 (13 * w + 5) ∧ I 55 (13 * w + 5) ≤ 1584 * I 49 6) ∧ (0 ≤ I 55 (13 * w + 6) ∧ I 55 (13 * w + 6) ≤ 7) ∧ (0 ≤ I 55 (13 * w + 7) ∧ I 55 (13 * w + 7) ≤ 99999 + 99 * I 49 6) ∧ (0 ≤ I 55 (13 * w + 8) ∧ I 55 (13 * w + 8) ≤ 3) ∧ (0 ≤ I 55 (13 * w + 9) ∧ I 55 (13 * w + 9) ≤ 3) ∧ (I 55 (13 * w + 12) = 0 ∨ I 55 (13 * w + 12) = 1)
/-- which mark goes with a dropped word -/
noncomputable def dmk (I : Mm) (w : Int) : Int := cif (I 55 (13 * w + 12) = 0) (fld (fun m k => cif (I 55 (13 * k + 12) = 1 ∧ I 55 (13 * k + 8) = I 55 (13 * w + 8)) k m) w (I 49 6).toNat) w
noncomputable def gDrops (I : Mm) (w : Int) : Mm := up (up I 55 (13 * w + 9) 3) 55 (13 * dmk (up I 55 (13 * w + 9) 3) w + 12) 0
theorem dmk_r {I : Mm} {w : Int} (hw : 0 ≤ w ∧ w < I 49 6) : 0 ≤ dmk I w ∧ dmk I w < I 49 6 := by
  have key : ∀ n : Nat, (n : Int) ≤ I 49 6 → 0 ≤ fld (fun m k => cif (I 55 (13 * k + 12) = 1 ∧ I 55 (13 * k + 8) = I 55 (13 * w + 8)) k m) w n ∧ fld (fun m k => cif (I 55 (13 * k + 12) = 1 ∧ I 55 (13 * k + 8) = I 55 (13 * w + 8)) k m) w n < I 49 6 := by
    intro n
    induction n with
    | zero => intro _; exact hw
    | succ n ih =>
      intro h
      have h1 := ih (by omega)
      have e : fld (fun m k => cif (I 55 (13 * k + 12) = 1 ∧ I 55 (13 * k + 8) = I 55 (13 * w + 8)) k m) w (n + 1) = cif (I 55 (13 * n + 12) = 1 ∧ I 55 (13 * n + 8) = I 55 (13 * w + 8)) (n : Int) (fld (fun m k => cif (I 55 (13 * k + 12) = 1 ∧ I 55 (13 * k + 8) = I 55 (13 * w + 8)) k m) w n) := rfl
      rw [e]
      by_cases hc : I 55 (13 * n + 12) = 1 ∧ I 55 (13 * n + 8) = I 55 (13 * w + 8)
      · rw [cif_t hc]; omega
      · rw [cif_f hc]; exact h1
  unfold dmk
  by_cases hc : I 55 (13 * w + 12) = 0
  · rw [cif_t hc]; exact key _ (by omega)
  · rw [cif_f hc]; exact hw
/-- the end and the gate of a word that comes now -/
noncomputable def nEnd (I : Mm) (s len : Int) : Int := cif (I 49 8 < I 51 s) (I 51 s) (I 49 8) + 16 * len / I 50 (7 * s + 1)
noncomputable def nGate0 (I : Mm) (s : Int) : Int := cif (I 53 s = 0) (I 49 7) (I 52 s + I 50 (7 * s + 3))
noncomputable def nGate (I : Mm) (s : Int) : Int := cif (I 49 7 < nGate0 I s) (nGate0 I s) (I 49 7)
/-- the memory with the new word in it, before one is dropped -/
noncomputable def gNew (I : Mm) (s len : Int) : Mm :=
  up (up (up (up (up (up (up (up (up (up (up (up (up (up (up (up (up I 49 6 (I 49 6 + 1)) 51 s (nEnd I s len)) 52 s (nGate I s)) 55 (13 * I 49 6 + 0) (I 50 (7 * s + 0))) 55 (13 * I 49 6 + 1) len) 55 (13 * I 49 6 + 2) (I 49 7)) 55 (13 * I 49 6 + 3) (I 49 7 + I 50 (7 * s + 2))) 55 (13 * I 49 6 + 4) (I 53 s)) 55 (13 * I 49 6 + 5) (nEnd I s len)) 55 (13 * I 49 6 + 6) s) 55 (13 * I 49 6 + 7) (nGate I s)) 55 (13 * I 49 6 + 8) (I 50 (7 * s + 4))) 55 (13 * I 49 6 + 9) 0) 55 (13 * I 49 6 + 10) (-4)) 55 (13 * I 49 6 + 11) (-4)) 55 (13 * I 49 6 + 12) 1) 53 s (I 53 s + 1)
noncomputable def victim (J : Mm) (w : Int) : Int := cif (J 49 13 = 0) w (cif (J 49 13 = 1) (grt J) (ofM J).2)
noncomputable def gComes (I : Mm) (s len : Int) : Mm := cif (I 49 12 < cntW (fun w => gNew I s len 55 (13 * w + 9) = 0) (I 49 6 + 1).toNat) (gDrops (gNew I s len) (victim (gNew I s len) (I 49 6))) (gNew I s len)
