/-! ===== sheets, tape, rules: the side of the state ===== -/
def sid (a k : Int) : Prop := a = 4 ∨ a = 5 ∨ a = 6 ∨ a = 8 ∨ a = 10 ∨ (18 ≤ a ∧ a ≤ 24) ∨ (41 ≤ a ∧ a ≤ 48) ∨ (57 ≤ a ∧ a ≤ 66) ∨ (a = 49 ∧ (k = 20 ∨ k = 21))
theorem Inv.side {I J : Mm} {N : Int} (hI : Inv I N) (hF : Fx J) (h : ∀ a k : Int, ¬ sid a k → J a k = I a k) (h20 : 0 ≤ J 49 20 ∧ J 49 20 ≤ 40) (hsh : CSh J) (htp : CTp J) (hru : CRu J) : Inv J N := by
  have r : ∀ a : Int, (∀ k : Int, ¬ sid a k) → J a = I a := fun a ha => funext fun k => h a k (ha k)
  have q : ∀ k : Int, k ≠ 20 → k ≠ 21 → J 49 k = I 49 k := fun k hk hk2 => h 49 k (by unfold sid; omega)
  have e55 := r 55 (fun k => by unfold sid; omega)
  have e56 := r 56 (fun k => by unfold sid; omega)
  have e50 := r 50 (fun k => by unfold sid; omega)
  have e51 := r 51 (fun k => by unfold sid; omega)
  have e52 := r 52 (fun k => by unfold sid; omega)
  have e53 := r 53 (fun k => by unfold sid; omega)
  have e54 := r 54 (fun k => by unfold sid; omega)
  have e11 := r 11 (fun k => by unfold sid; omega)
  have e13 := r 13 (fun k => by unfold sid; omega)
  have e14 := r 14 (fun k => by unfold sid; omega)
  have e15 := r 15 (fun k => by unfold sid; omega)
  have e16 := r 16 (fun k => by unfold sid; omega)
  have e17 := r 17 (fun k => by unfold sid; omega)
  have e3 := r 3 (fun k => by unfold sid; omega)
  have e0 := r 0 (fun k => by unfold sid; omega)
  have ew : ∀ w : Int, 0 ≤ w → w < I 49 6 → J (67 + w) = I (67 + w) := fun w a b => r _ (fun k => by unfold sid; omega)
  have q6 := q 6 (by decide) (by decide)
  have q7 := q 7 (by decide) (by decide)
  have q11 := q 11 (by decide) (by decide)
  refine ⟨by rw [q6]; exact hI.n, hF, ?_, SS_of q6 e55 e51 e52 e53 e54 hI.ss, SW_of q6 q7 e55 hI.sw, ?_, CSt_of hI.st (fun a k ha => h a k (by unfold sid; omega)) e50 e51 e52 e53 e54, hsh, htp, hru, CWd_of q6 q7 q11 e55 e56 e3 ew hI.wd, CPo_of q e55 e11 (by rw [e0]) hI.po, CTu_of q6 q11 e55 e56 e17 (fun w a b => by rw [ew w a b]) hI.tu, CLi_of q6 e55 (by rw [e13]) e14 (by rw [e15]) e16 hI.li⟩
  · unfold SN
    rw [q6, q7, q 8 (by decide) (by decide), q 9 (by decide) (by decide), q 12 (by decide) (by decide), q 13 (by decide) (by decide)]
    have := hI.sn
    unfold SN at this
    exact ⟨this.1, this.2.1, this.2.2.1, this.2.2.2.1, this.2.2.2.2.1, h20, this.2.2.2.2.2.2⟩
  · unfold SetOK
    rw [e50]
    exact hI.set
theorem CTp_of {I J : Mm} (h41 : J 4 1 = I 4 1) (h20 : J 49 20 = I 49 20) (h5 : J 5 = I 5) (h62 : J 62 = I 62) (h6 : J 6 = I 6) (h : CTp I) : CTp J := by
  unfold CTp
  rw [h41, h20, h5, h62, h6]
  exact h
theorem CRu_of {I J : Mm} (h8 : J 8 = I 8) (h10 : J 10 = I 10) (h57 : J 57 = I 57) (h : CRu I) : CRu J := by
  unfold CRu
  rw [h8, h10, h57]
  exact h
/-- only sheets change (and the reference's row of given ones) -/
theorem Inv.shee {I J : Mm} {N : Int} (hI : Inv I N) (hF : Fx J) (h : ∀ a k : Int, ¬ ((41 ≤ a ∧ a ≤ 48) ∨ (58 ≤ a ∧ a ≤ 61)) → J a k = I a k) (hsh : CSh J) : Inv J N := by
  have r : ∀ a : Int, ¬ ((41 ≤ a ∧ a ≤ 48) ∨ (58 ≤ a ∧ a ≤ 61)) → J a = I a := fun a ha => funext fun k => h a k ha
  refine hI.side hF (fun a k hs => h a k (fun x => hs (by unfold sid; omega))) (by rw [h 49 20 (by decide)]; exact hI.sn.2.2.2.2.2.1) hsh (CTp_of (h 4 1 (by decide)) (h 49 20 (by decide)) (r 5 (by decide)) (r 62 (by decide)) (r 6 (by decide)) hI.tp) (CRu_of (r 8 (by decide)) (r 10 (by decide)) (r 57 (by decide)) hI.ru)
/-! drop -/
theorem Inv.drop1 {I : Mm} {N s : Int} (hI : Inv I N) (hF : Fx (gDrop (kDrop I s) s)) : Inv (gDrop (kDrop I s) s) N ∧ aDrop (kDrop I s) s = aDrop I s := by
  unfold kDrop at hF ⊢
  by_cases c : (0 ≤ s ∧ s ≤ 3) ∧ I 58 s ≠ -4
  · rw [cif_t c] at hF ⊢
    have e58 : up I (41 + 2 * s) 1 (-1) 58 s = I 58 s := up_c (by omega)
    have e59 : up I (41 + 2 * s) 1 (-1) 59 s = I 59 s := up_c (by omega)
    have eg : gDrop (up I (41 + 2 * s) 1 (-1)) s = up (up I (41 + 2 * s) 1 (-1)) 58 s (-4) := by
      unfold gDrop
      rw [cif_t c.1, e58, cif_f c.2]
    rw [eg] at hF ⊢
    refine ⟨hI.shee hF (fun a k h => by rw [up_c (by omega), up_c (by omega)]) (fun s' a b => ?_), by unfold aDrop; rw [e58, e59]⟩
    have h := hI.sh s' a b
    have e2 : ∀ q : Int, up (up I (41 + 2 * s) 1 (-1)) 58 s (-4) (42 + 2 * s') q = I (42 + 2 * s') q := fun q => by rw [up_c (by omega), up_c (by omega)]
    have e3 : up (up I (41 + 2 * s) 1 (-1)) 58 s (-4) (41 + 2 * s') 2 = I (41 + 2 * s') 2 := by rw [up_c (by omega), up_k (by decide)]
    rw [e3, up_c (a' := 59) (by decide), up_c (a' := 59) (by omega)]
    refine ⟨?_, h.2.1, h.2.2.1, fun q q0 q1 => ?_⟩
    · by_cases e : s' = s
      · rw [e, up_s, up_c (by omega), up_s]; exact Or.inl ⟨rfl, rfl⟩
      · rw [up_k e, up_c (by omega), up_c (a' := 41 + 2 * s') (by omega), up_c (a' := 41 + 2 * s') (by omega)]; exact h.1
    · rw [e2, up_c (a' := 60) (by decide), up_c (a' := 60) (by omega)]; exact h.2.2.2 q q0 q1
  · rw [cif_f c] at hF ⊢
    refine ⟨?_, rfl⟩
    have eg : gDrop I s = I := by
      unfold gDrop
      by_cases c1 : 0 ≤ s ∧ s ≤ 3
      · rw [cif_t c1, cif_t (Classical.byContradiction (fun x => c ⟨c1, x⟩))]
      · rw [cif_f c1]
    rw [eg]
    exact hI
