theorem ofM_v {J : Mm} {s : Int} (hs : 0 ≤ s ∧ s ≤ 7) (h : anyW (fun w => J 55 (13 * w + 9) = 0 ∧ J 55 (13 * w + 6) = s) (J 49 6)) : 0 ≤ (ofM J).2 ∧ (ofM J).2 < J 49 6 ∧ J 55 (13 * (ofM J).2 + 9) = 0 := by
  have key : ∀ n : Nat, let q := fld (fun (acc : Int × Int) i => cif (acc.1 < cntW (fun w => J 55 (13 * w + 9) = 0 ∧ J 55 (13 * w + 6) = i) (J 49 6).toNat) (cntW (fun w => J 55 (13 * w + 9) = 0 ∧ J 55 (13 * w + 6) = i) (J 49 6).toNat, lstW (fun w => J 55 (13 * w + 9) = 0 ∧ J 55 (13 * w + 6) = i) (J 49 6).toNat) acc) (-4, -4) n; (∀ i : Nat, i < n → cntW (fun w => J 55 (13 * w + 9) = 0 ∧ J 55 (13 * w + 6) = (i : Int)) (J 49 6).toNat ≤ q.1) ∧ (1 ≤ q.1 → 0 ≤ q.2 ∧ q.2 < J 49 6 ∧ J 55 (13 * q.2 + 9) = 0) := by
    intro n
    induction n with
    | zero => exact ⟨fun i hi => by omega, fun h => by simp [fld] at h⟩
    | succ n ih =>
      dsimp only at ih ⊢
      rw [fld]
      generalize fld (fun (acc : Int × Int) i => cif (acc.1 < cntW (fun w => J 55 (13 * w + 9) = 0 ∧ J 55 (13 * w + 6) = i) (J 49 6).toNat) (cntW (fun w => J 55 (13 * w + 9) = 0 ∧ J 55 (13 * w + 6) = i) (J 49 6).toNat, lstW (fun w => J 55 (13 * w + 9) = 0 ∧ J 55 (13 * w + 6) = i) (J 49 6).toNat) acc) (-4, -4) n = q at ih ⊢
      by_cases hc : q.1 < cntW (fun w => J 55 (13 * w + 9) = 0 ∧ J 55 (13 * w + 6) = (n : Int)) (J 49 6).toNat
      · rw [cif_t hc]
        refine ⟨fun i hi => ?_, fun h1 => ?_⟩
        · by_cases hin : i = n
          · subst hin; exact Int.le_refl _
          · have := ih.1 i (by omega)
            dsimp only
            omega
        · dsimp only at h1 ⊢
          rcases lstW_r (fun w => J 55 (13 * w + 9) = 0 ∧ J 55 (13 * w + 6) = (n : Int)) (J 49 6).toNat with ⟨-, h3⟩ | ⟨h2, h3, h4, -⟩
          · exfalso
            have hz : ∀ m : Nat, ¬ anyW (fun w => J 55 (13 * w + 9) = 0 ∧ J 55 (13 * w + 6) = (n : Int)) m → cntW (fun w => J 55 (13 * w + 9) = 0 ∧ J 55 (13 * w + 6) = (n : Int)) m = 0 := by
              intro m
              induction m with
              | zero => intro _; rfl
              | succ m ihm =>
                intro hm
                have e : cntW (fun w => J 55 (13 * w + 9) = 0 ∧ J 55 (13 * w + 6) = (n : Int)) (m + 1) = cntW (fun w => J 55 (13 * w + 9) = 0 ∧ J 55 (13 * w + 6) = (n : Int)) m + cif (J 55 (13 * (m : Int) + 9) = 0 ∧ J 55 (13 * (m : Int) + 6) = (n : Int)) 1 0 := rfl
                rw [e, ihm (fun q => hm (anyW_mono q (by omega))), cif_f (fun q => hm ⟨m, by omega, by omega, q⟩)]
                rfl
            rw [hz _ h3] at h1
            omega
          · exact ⟨h2, by omega, h4.1⟩
      · rw [cif_f hc]
        refine ⟨fun i hi => ?_, ih.2⟩
        by_cases hin : i = n
        · subst hin; omega
        · exact ih.1 i (by omega)
  have h8 := key 8
  dsimp only at h8
  have h1 := h8.1 s.toNat (by omega)
  have es : ((s.toNat : Nat) : Int) = s := by omega
  rw [es] at h1
  have hc : 1 ≤ cntW (fun w => J 55 (13 * w + 9) = 0 ∧ J 55 (13 * w + 6) = s) (J 49 6).toNat := by
    obtain ⟨w, w1, w2, w3⟩ := h
    have gr : ∀ m : Nat, w < m → 1 ≤ cntW (fun w => J 55 (13 * w + 9) = 0 ∧ J 55 (13 * w + 6) = s) m := by
      intro m
      induction m with
      | zero => intro h; omega
      | succ m ihm =>
        intro hm
        have e : cntW (fun w => J 55 (13 * w + 9) = 0 ∧ J 55 (13 * w + 6) = s) (m + 1) = cntW (fun w => J 55 (13 * w + 9) = 0 ∧ J 55 (13 * w + 6) = s) m + cif (J 55 (13 * (m : Int) + 9) = 0 ∧ J 55 (13 * (m : Int) + 6) = s) 1 0 := rfl
        rw [e]
        have hb := cntW_b (fun w => J 55 (13 * w + 9) = 0 ∧ J 55 (13 * w + 6) = s) m
        by_cases hwm : w = m
        · subst hwm
          rw [cif_t w3]
          omega
        · have := ihm (by omega)
          have := cif01 (J 55 (13 * (m : Int) + 9) = 0 ∧ J 55 (13 * (m : Int) + 6) = s)
          omega
    exact gr _ (by omega)
  exact h8.2 (Int.le_trans hc h1)
theorem grt_v {J : Mm} (h : anyW (fun w => J 55 (13 * w + 9) = 0) (J 49 6)) : 0 ≤ grt J ∧ grt J < J 49 6 ∧ J 55 (13 * grt J + 9) = 0 := by
  have h1 : anyW (fun w => J 55 (13 * w + 9) = 0) ((J 49 6).toNat : Int) := by
    obtain ⟨w, a, b, c⟩ := h
    exact ⟨w, a, by omega, c⟩
  rcases bst_r (fun w => J 55 (13 * w + 9) = 0) (fun w b => rk J b 0 ≤ rk J w 0) (J 49 6).toNat with q | ⟨q1, q2, q3⟩
  · exact absurd q (bst_some h1)
  · have e : grt J = bst (fun w => J 55 (13 * w + 9) = 0) (fun w b => rk J b 0 ≤ rk J w 0) (J 49 6).toNat := rfl
    rw [e]
    refine ⟨q1, ?_, q3⟩
    obtain ⟨w, a, b, c⟩ := h
    omega
theorem gNew_sc (I : Mm) (s len : Int) : gNew I s len 49 6 = I 49 6 + 1 ∧ gNew I s len 49 7 = I 49 7 ∧ gNew I s len 49 8 = I 49 8 ∧ gNew I s len 49 9 = I 49 9 ∧ gNew I s len 49 11 = I 49 11 ∧ gNew I s len 49 12 = I 49 12 ∧ gNew I s len 49 13 = I 49 13 ∧ gNew I s len 49 20 = I 49 20 := by
  unfold gNew
  simp [up]
theorem gNew_new (I : Mm) (s len : Int) : gNew I s len 55 (13 * I 49 6 + 0) = I 50 (7 * s + 0) ∧ gNew I s len 55 (13 * I 49 6 + 1) = len ∧ gNew I s len 55 (13 * I 49 6 + 2) = I 49 7 ∧ gNew I s len 55 (13 * I 49 6 + 3) = I 49 7 + I 50 (7 * s + 2) ∧ gNew I s len 55 (13 * I 49 6 + 4) = I 53 s ∧ gNew I s len 55 (13 * I 49 6 + 5) = nEnd I s len ∧ gNew I s len 55 (13 * I 49 6 + 6) = s ∧ gNew I s len 55 (13 * I 49 6 + 7) = nGate I s ∧ gNew I s len 55 (13 * I 49 6 + 8) = I 50 (7 * s + 4) ∧ gNew I s len 55 (13 * I 49 6 + 9) = 0 ∧ gNew I s len 55 (13 * I 49 6 + 10) = -4 ∧ gNew I s len 55 (13 * I 49 6 + 11) = -4 ∧ gNew I s len 55 (13 * I 49 6 + 12) = 1 := by
  unfold gNew
  simp [up]
  repeat rw [if_neg (by omega)]
theorem gNew_old (I : Mm) (s len : Int) {w k : Int} (hw : w ≠ I 49 6) (hk : 0 ≤ k ∧ k ≤ 12) : gNew I s len 55 (13 * w + k) = I 55 (13 * w + k) := by
  unfold gNew
  rw [up_c (by decide), up_k (by omega), up_k (by omega), up_k (by omega), up_k (by omega), up_k (by omega), up_k (by omega), up_k (by omega), up_k (by omega), up_k (by omega), up_k (by omega), up_k (by omega), up_k (by omega), up_k (by omega), up_c (by decide), up_c (by decide), up_c (by decide)]
theorem vict_v (I : Mm) {s len : Int} (hs : 0 ≤ s ∧ s ≤ 7) (hm : 0 ≤ I 49 6) : 0 ≤ victim (gNew I s len) (I 49 6) ∧ victim (gNew I s len) (I 49 6) < gNew I s len 49 6 := by
  obtain ⟨n0, n1, n2, n3, n4, n5, n6, n7, n8, n9, -⟩ := gNew_new I s len
  have e6 := (gNew_sc I s len).1
  unfold victim
  by_cases h0 : gNew I s len 49 13 = 0
  · rw [cif_t h0]; omega
  · rw [cif_f h0]
    by_cases h1 : gNew I s len 49 13 = 1
    · rw [cif_t h1]
      have := grt_v (J := gNew I s len) ⟨I 49 6, hm, by omega, n9⟩
      exact ⟨this.1, this.2.1⟩
    · rw [cif_f h1]
      have := ofM_v (J := gNew I s len) hs ⟨I 49 6, hm, by omega, n9, n6⟩
      exact ⟨this.1, this.2.1⟩
