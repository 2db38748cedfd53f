/-! ===== what keeps the invariant: places that it does not read ===== -/
def scr (a k : Int) : Prop := (18 ≤ a ∧ a ≤ 24) ∨ (a = 4 ∧ k = 2) ∨ a = 6 ∨ a = 61 ∨ (63 ≤ a ∧ a ≤ 66) ∨ (a = 49 ∧ k = 21)
theorem row_of {I J : Mm} (h : ∀ a k : Int, ¬ scr a k → J a k = I a k) {a : Int} (ha : ∀ k : Int, ¬ scr a k) : J a = I a := funext fun k => h a k (ha k)
theorem SS_of {I J : Mm} (h6 : J 49 6 = I 49 6) (h55 : J 55 = I 55) (h51 : J 51 = I 51) (h52 : J 52 = I 52) (h53 : J 53 = I 53) (h54 : J 54 = I 54) (h : SS I) : SS J := by
  unfold SS
  rw [h6, h55, h51, h52, h53, h54]
  exact h
theorem SW_of {I J : Mm} (h6 : J 49 6 = I 49 6) (h7 : J 49 7 = I 49 7) (h55 : J 55 = I 55) (h : SW I) : SW J := by
  unfold SW
  rw [h6, h7, h55]
  exact h
theorem CWd_of {I J : Mm} (h6 : J 49 6 = I 49 6) (h7 : J 49 7 = I 49 7) (h11 : J 49 11 = I 49 11) (h55 : J 55 = I 55) (h56 : J 56 = I 56) (h3 : J 3 = I 3) (hw : ∀ w : Int, 0 ≤ w → w < I 49 6 → J (67 + w) = I (67 + w)) (h : CWd I) : CWd J := by
  intro w a b
  rw [h6] at b
  rw [h7, h11, h55, h56, h3, hw w a b]
  exact h w a b
theorem CPo_of {I J : Mm} (h49 : ∀ k : Int, k ≠ 20 → k ≠ 21 → J 49 k = I 49 k) (h55 : J 55 = I 55) (h11 : J 11 = I 11) (h0 : J 0 3 = I 0 3) (h : CPo I) : CPo J := by
  unfold CPo
  rw [h49 6 (by decide) (by decide), h49 7 (by decide) (by decide), h49 8 (by decide) (by decide), h49 9 (by decide) (by decide), h49 11 (by decide) (by decide), h49 12 (by decide) (by decide), h49 13 (by decide) (by decide), h55, h11, h0]
  exact h
theorem CTu_of {I J : Mm} (h6 : J 49 6 = I 49 6) (h11 : J 49 11 = I 49 11) (h55 : J 55 = I 55) (h56 : J 56 = I 56) (h17 : J 17 = I 17) (hw : ∀ w : Int, 0 ≤ w → w < I 49 6 → J (67 + w) 12 = I (67 + w) 12) (h : CTu I) : CTu J := by
  intro i a b
  rw [h11] at b
  have := h i a b
  rw [h6, h55, h56, h17, hw _ this.1.1 this.1.2]
  exact this
theorem CLi_of {I J : Mm} (h6 : J 49 6 = I 49 6) (h55 : J 55 = I 55) (h13 : J 13 1 = I 13 1) (h14 : J 14 = I 14) (h15 : J 15 1 = I 15 1) (h16 : J 16 = I 16) (h : CLi I) : CLi J := by
  unfold CLi
  rw [h6, h55, h13, h14, h15, h16]
  exact h
theorem CSt_of {I J : Mm} (h : CSt I) (ha : ∀ a k : Int, 25 ≤ a ∧ a ≤ 40 → J a k = I a k) (h50 : J 50 = I 50) (h51 : J 51 = I 51) (h52 : J 52 = I 52) (h53 : J 53 = I 53) (h54 : J 54 = I 54) : CSt J := by
  intro s s0 s1
  have := h s s0 s1
  rw [h50, h51, h52, h53, h54, ha (25 + 2 * s) 2 (by omega), ha (25 + 2 * s) 3 (by omega), ha (25 + 2 * s) 4 (by omega), ha (25 + 2 * s) 5 (by omega)]
  refine ⟨fun k k0 k1 => ?_, this.2⟩
  rw [ha (26 + 2 * s) k (by omega)]
  exact this.1 k k0 k1
theorem Inv.keep {I J : Mm} {N : Int} (hI : Inv I N) (hF : Fx J) (h6 : ∀ k : Int, -600 ≤ J 6 k ∧ J 6 k ≤ 600) (h : ∀ a k : Int, ¬ scr a k → J a k = I a k) : Inv J N := by
  have r : ∀ a : Int, ¬ (18 ≤ a ∧ a ≤ 24) → a ≠ 4 → a ≠ 6 → a ≠ 61 → ¬ (63 ≤ a ∧ a ≤ 66) → a ≠ 49 → J a = I a := fun a h1 h2 h3 h4 h5 h6 => row_of h (fun k => by unfold scr; omega)
  have q : ∀ k : Int, k ≠ 21 → J 49 k = I 49 k := fun k hk => h 49 k (by unfold scr; omega)
  have e55 := r 55 (by decide) (by decide) (by decide) (by decide) (by decide) (by decide)
  have e56 := r 56 (by decide) (by decide) (by decide) (by decide) (by decide) (by decide)
  have e50 := r 50 (by decide) (by decide) (by decide) (by decide) (by decide) (by decide)
  have e51 := r 51 (by decide) (by decide) (by decide) (by decide) (by decide) (by decide)
  have e52 := r 52 (by decide) (by decide) (by decide) (by decide) (by decide) (by decide)
  have e53 := r 53 (by decide) (by decide) (by decide) (by decide) (by decide) (by decide)
  have e54 := r 54 (by decide) (by decide) (by decide) (by decide) (by decide) (by decide)
  have e62 := r 62 (by decide) (by decide) (by decide) (by decide) (by decide) (by decide)
  have e57 := r 57 (by decide) (by decide) (by decide) (by decide) (by decide) (by decide)
  have e5 := r 5 (by decide) (by decide) (by decide) (by decide) (by decide) (by decide)
  have e8 := r 8 (by decide) (by decide) (by decide) (by decide) (by decide) (by decide)
  have e10 := r 10 (by decide) (by decide) (by decide) (by decide) (by decide) (by decide)
  have e11 := r 11 (by decide) (by decide) (by decide) (by decide) (by decide) (by decide)
  have e13 := r 13 (by decide) (by decide) (by decide) (by decide) (by decide) (by decide)
  have e14 := r 14 (by decide) (by decide) (by decide) (by decide) (by decide) (by decide)
  have e15 := r 15 (by decide) (by decide) (by decide) (by decide) (by decide) (by decide)
  have e16 := r 16 (by decide) (by decide) (by decide) (by decide) (by decide) (by decide)
  have e17 := r 17 (by decide) (by decide) (by decide) (by decide) (by decide) (by decide)
  have e3 := r 3 (by decide) (by decide) (by decide) (by decide) (by decide) (by decide)
  have e0 := r 0 (by decide) (by decide) (by decide) (by decide) (by decide) (by decide)
  have ew : ∀ w : Int, 0 ≤ w → w < I 49 6 → J (67 + w) = I (67 + w) := fun w a b => r _ (by omega) (by omega) (by omega) (by omega) (by omega) (by omega)
  refine ⟨by rw [q 6 (by decide)]; exact hI.n, hF, ?_, SS_of (q 6 (by decide)) e55 e51 e52 e53 e54 hI.ss, SW_of (q 6 (by decide)) (q 7 (by decide)) e55 hI.sw, ?_, CSt_of hI.st (fun a k ha => h a k (by unfold scr; omega)) e50 e51 e52 e53 e54, CSh_of hI.sh (fun a k ha => h a k (by unfold scr; omega)), ?_, ?_, CWd_of (q 6 (by decide)) (q 7 (by decide)) (q 11 (by decide)) e55 e56 e3 ew hI.wd, CPo_of (fun k _ hk => q k hk) e55 e11 (by rw [e0]) hI.po, CTu_of (q 6 (by decide)) (q 11 (by decide)) e55 e56 e17 (fun w a b => by rw [ew w a b]) hI.tu, CLi_of (q 6 (by decide)) e55 (by rw [e13]) e14 (by rw [e15]) e16 hI.li⟩
  · unfold SN
    rw [q 6 (by decide), q 7 (by decide), q 8 (by decide), q 9 (by decide), q 12 (by decide), q 13 (by decide), q 20 (by decide)]
    exact hI.sn
  · unfold SetOK
    rw [e50]
    exact hI.set
  · unfold CTp
    rw [q 20 (by decide), h 4 1 (by unfold scr; omega), e5, e62]
    exact ⟨hI.tp.1, hI.tp.2.1, h6⟩
  · unfold CRu
    rw [e8, e10, e57]
    exact hI.ru
/-! ===== set, full ===== -/
theorem okSet_at {I : Mm} (h : SetOK I) {s k v : Int} (hs : 0 ≤ s ∧ s ≤ 7) (hok : okSet k v) : SetOK (up I 50 (7 * s + k) v) := by
  intro s' k' a b c d
  have hk : 0 ≤ k ∧ k ≤ 6 := by unfold okSet at hok; omega
  by_cases e : 7 * s' + k' = 7 * s + k
  · have e1 : k' = k := by omega
    rw [e, up_s, e1]; exact hok
  · rw [up_k e]; exact h s' k' a b c d
theorem Inv.set1 {I : Mm} {N s k v : Int} (hI : Inv I N) : Inv (gSet (kSet I s k v) s k v) N ∧ aSet (kSet I s k v) s k v = aSet I s k v := by
  unfold kSet
  by_cases c : (0 ≤ s ∧ s ≤ 7) ∧ okSet k v
  · have hk : 0 ≤ k ∧ k ≤ 6 := by have := c.2; unfold okSet at this; omega
    have hv : -2147483648 ≤ v ∧ v ≤ 2147483647 := by have := c.2; unfold okSet at this; omega
    rw [cif_t c]
    have ea : aSet (up I (26 + 2 * s) k v) s k v = aSet I s k v := by
      unfold aSet
      rw [up_c (a' := 50) (by omega)]
    refine ⟨?_, ea⟩
    have eg : gSet (up I (26 + 2 * s) k v) s k v = up (up I (26 + 2 * s) k v) 50 (7 * s + k) v := by
      unfold gSet
      rw [cif_t c.1, cif_t c.2]
    rw [eg]
    have hst := stC hI.nb.1 hI.fx c.1.1 c.1.2
    have r : ∀ a : Int, a ≠ 26 + 2 * s → a ≠ 50 → up (up I (26 + 2 * s) k v) 50 (7 * s + k) v a = I a := fun a h1 h2 => by rw [up_row h2, up_row h1]
    have ew : ∀ w : Int, 0 ≤ w → w < I 49 6 → up (up I (26 + 2 * s) k v) 50 (7 * s + k) v (67 + w) = I (67 + w) := fun w a b => r _ (by omega) (by omega)
    have r49 := r 49 (by omega) (by decide)
    have r55 := r 55 (by omega) (by decide)
    refine ⟨by rw [r49]; exact hI.n, ?_, by unfold SN; rw [r49]; exact hI.sn, SS_of (by rw [r49]) r55 (r 51 (by omega) (by decide)) (r 52 (by omega) (by decide)) (r 53 (by omega) (by decide)) (r 54 (by omega) (by decide)) hI.ss, SW_of (by rw [r49]) (by rw [r49]) r55 hI.sw, ?_, ?_, CSh_of hI.sh (fun a q h => by rw [r a (by omega) (by omega)]), ?_, ?_, CWd_of (by rw [r49]) (by rw [r49]) (by rw [r49]) r55 (r 56 (by omega) (by decide)) (r 3 (by omega) (by decide)) ew hI.wd, CPo_of (fun q _ _ => by rw [r49]) r55 (r 11 (by omega) (by decide)) (by rw [r 0 (by omega) (by decide)]) hI.po, CTu_of (by rw [r49]) (by rw [r49]) r55 (r 56 (by omega) (by decide)) (r 17 (by omega) (by decide)) (fun w a b => by rw [ew w a b]) hI.tu, CLi_of (by rw [r49]) r55 (by rw [r 13 (by omega) (by decide)]) (r 14 (by omega) (by decide)) (by rw [r 15 (by omega) (by decide)]) (r 16 (by omega) (by decide)) hI.li⟩
    · refine Fx.up (Fx.up hI.fx ?_ hv (Or.inl (by omega))) (fx_none rfl _) hv (Or.inl (by decide))
      have := hst.2.2.2.2.2
      rw [show 25 + 2 * s + 1 = 26 + 2 * s by omega] at this
      exact fx_none this _
    · have := okSet_at (I := up I (26 + 2 * s) k v) (s := s) (k := k) (v := v) (fun s' k' a b d e => by rw [up_c (by omega)]; exact hI.set s' k' a b d e) c.1 c.2
      exact this
    · intro s' a b
      have h := hI.st s' a b
      rw [r 51 (by omega) (by decide), r 52 (by omega) (by decide), r 53 (by omega) (by decide), r 54 (by omega) (by decide), r (25 + 2 * s') (by omega) (by omega)]
      refine ⟨fun k' k0 k1 => ?_, h.2⟩
      rw [up_c (by omega)]
      by_cases e : s' = s ∧ k' = k
      · rw [e.1, e.2, up_s, up_s]
      · rw [up_n (by omega), up_k (by omega), up_c (by omega)]; exact h.1 k' k0 k1
    · unfold CTp; rw [r49, r 4 (by omega) (by decide), r 5 (by omega) (by decide), r 62 (by omega) (by decide), r 6 (by omega) (by decide)]; exact hI.tp
    · unfold CRu; rw [r 8 (by omega) (by decide), r 10 (by omega) (by decide), r 57 (by omega) (by decide)]; exact hI.ru
  · rw [cif_f c]
    refine ⟨?_, rfl⟩
    have eg : gSet I s k v = I := by
      unfold gSet
      by_cases c1 : 0 ≤ s ∧ s ≤ 7
      · rw [cif_t c1, cif_f (fun x => c ⟨c1, x⟩)]
      · rw [cif_f c1]
    rw [eg]
    exact hI
