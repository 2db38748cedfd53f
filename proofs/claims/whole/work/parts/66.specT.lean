/-! ===== the store's changes, the port ===== -/
theorem rmC_sz {I : Mm} {c r i : Int} (hcr : c ≠ r) : rmC I c r i c 1 = cif (0 ≤ i ∧ i < I c 1) (I c 1 - 1) (I c 1) := by
  unfold rmC
  by_cases h : 0 ≤ i ∧ i < I c 1
  · rw [cif_t h, cif_t h]
    unfold rmL
    rw [cif_f hcr, cif_t ⟨rfl, rfl⟩]
  · rw [cif_f h, cif_f h]
theorem rmC_at {I : Mm} {c r i : Int} (hcr : c ≠ r) {j : Int} (j0 : 0 ≤ j) (j1 : j < rmC I c r i c 1) : rmC I c r i r j = cif (0 ≤ i ∧ i < I c 1 ∧ i ≤ j) (I r (j + 1)) (I r j) := by
  rw [rmC_sz hcr] at j1
  unfold rmC
  by_cases h : 0 ≤ i ∧ i < I c 1
  · rw [cif_t h] at j1 ⊢
    unfold rmL
    rw [cif_t rfl]
    by_cases h2 : i ≤ j
    · rw [cif_t (by omega), cif_t (by omega)]
    · rw [cif_f (by omega), cif_f (by omega), cif_f (by omega)]
  · rw [cif_f h] at j1 ⊢
    rw [cif_f (by omega)]
theorem rmC_e {I : Mm} {c r i : Int} (hcr : c ≠ r) {j : Int} (j0 : 0 ≤ j) (j1 : j < rmC I c r i c 1) : ∃ q : Int, 0 ≤ q ∧ q < I c 1 ∧ rmC I c r i r j = I r q := by
  have e := rmC_at hcr j0 j1
  rw [rmC_sz hcr] at j1
  by_cases h : 0 ≤ i ∧ i < I c 1 ∧ i ≤ j
  · rw [cif_t h] at e
    rw [cif_t ⟨h.1, h.2.1⟩] at j1
    exact ⟨j + 1, by omega, by omega, e⟩
  · rw [cif_f h] at e
    refine ⟨j, j0, ?_, e⟩
    by_cases h2 : 0 ≤ i ∧ i < I c 1
    · rw [cif_t h2] at j1; omega
    · rw [cif_f h2] at j1; exact j1
theorem LnC_rs {I : Mm} {N c r i : Int} (h : LnC I N c r) (hcr : c ≠ r) : LnC (rmC I c r i) N c r := by
  have hz := rmC_sz (I := I) (i := i) hcr
  have h1 := h.1
  refine ⟨?_, fun j j0 j1 => ?_⟩
  · rw [hz]
    by_cases h2 : 0 ≤ i ∧ i < I c 1
    · rw [cif_t h2]; omega
    · rw [cif_f h2]; exact h1
  · obtain ⟨q, q0, q1, e⟩ := rmC_e hcr j0 j1
    rw [e]
    exact h.2 q q0 q1
theorem HsC_rs {I : Mm} {N c r i : Int} (hL : LnC I N c r) (h : HsC I c r) (hcr : c ≠ r) (hc : c < 67) (hr : r < 67) : HsC (rmC I c r i) c r := by
  intro j j0 j1
  obtain ⟨q, q0, q1, e⟩ := rmC_e hcr j0 j1
  have := hL.2 q q0 q1
  rw [e, rmC_n (by omega) (by omega)]
  exact h q q0 q1
theorem HsC_rm {I : Mm} {N c r i c' r' : Int} (hL : LnC I N c' r') (h : HsC I c' r') (h1 : c' ≠ c) (h2 : c' ≠ r) (h3 : r' ≠ c) (h4 : r' ≠ r) (hc : c < 67) (hr : r < 67) : HsC (rmC I c r i) c' r' := by
  intro j j0 j1
  rw [rmC_n h1 h2] at j1
  have := hL.2 j j0 j1
  rw [rmC_n h3 h4, rmC_n (by omega) (by omega)]
  exact h j j0 j1
theorem StoC_rm13 {I : Mm} {N : Int} (h : StoC I N) (i : Int) : StoC (rmC I 13 14 i) N :=
  ⟨LnC_rs h.1 (by decide), LnC_rm h.2.1 (by decide) (by decide) (by decide) (by decide), HsC_rs h.1 h.2.2.1 (by decide) (by decide) (by decide), HsC_rm h.2.1 h.2.2.2 (by decide) (by decide) (by decide) (by decide) (by decide) (by decide)⟩
theorem StoC_rm15 {I : Mm} {N : Int} (h : StoC I N) (i : Int) : StoC (rmC I 15 16 i) N :=
  ⟨LnC_rm h.1 (by decide) (by decide) (by decide) (by decide), LnC_rs h.2.1 (by decide), HsC_rm h.1 h.2.2.1 (by decide) (by decide) (by decide) (by decide) (by decide) (by decide), HsC_rs h.2.1 h.2.2.2 (by decide) (by decide) (by decide)⟩
theorem nxM_r {I : Mm} {N : Int} (hK : LnC I N 15 16) (t : Int) : nxM I t = -1 ∨ (0 ≤ nxM I t ∧ nxM I t < I 15 1) := by
  have := hK.1
  rcases bstL_r (fun i => opH I t (I (I 16 i) 2) (I 13 1)) (fun i b => crk I 10 (I 16 i) < crk I 10 (I 16 b)) (I 15 1).toNat with h | ⟨h1, h2, -⟩
  · exact Or.inl h
  · exact Or.inr ⟨h1, by unfold nxM; omega⟩
theorem lsO_r {I : Mm} {N : Int} (hL : LnC I N 13 14) (h t : Int) : lsO I h t = -1 ∨ (0 ≤ lsO I h t ∧ lsO I h t < I 13 1) := by
  have := hL.1
  rcases bstL_r (fun i => I (I 14 i) 2 = h ∧ I (I 14 i) 9 ≤ t) (fun i b => crk I 8 (I 14 i) < crk I 8 (I 14 b)) (I 13 1).toNat with h | ⟨h1, h2, -⟩
  · exact Or.inl h
  · exact Or.inr ⟨h1, by unfold lsO; omega⟩
theorem lnA_c {I : Mm} {N c r b : Int} (hL : LnC I N c r) (hb : b = -1 ∨ (0 ≤ b ∧ b < I c 1)) : lnA I c r b = celL I r b := by
  have := hL.1
  rcases hb with rfl | ⟨h0, h1⟩
  · unfold lnA
    rw [celL_n, cif_f (by omega)]
  · rw [lnA_in hL h0 h1, celL_i h0]
theorem c_X1_at15c {l : Launch} {d : Dd} {z : Nat} {N : Int} {I : Mm} {b : Int} (hN : 67 ≤ N) (hF : Fx I) (hL : LnC I N 15 16) (hb : b = -1 ∨ (0 ≤ b ∧ b < I 15 1)) : Cn l d z yX1_at cX1_at 2 (some (.object "TurnPort$Word")) 0 0 0 0 [vR z 15, vI b] N I (pv (vR z (celL I 16 b)) N I) := by
  have := c_X1_at15 (l := l) (d := d) (z := z) (i := b) hN hF (by have := hL.1; omega)
  rw [lnA_c hL hb] at this
  exact this
theorem cel_v {I : Mm} {N c r b : Int} (hL : LnC I N c r) (hb : b = -1 ∨ (0 ≤ b ∧ b < I c 1)) : celL I r b = -1 ∨ (67 ≤ celL I r b ∧ celL I r b < N) := by
  have h := celL_r hL hb
  by_cases q : b = -1
  · subst q; exact Or.inl (celL_n I r)
  · exact Or.inr ⟨(h.2 q).1, (h.2 q).2.1⟩
theorem nxW_r {I : Mm} {N : Int} (h : StoC I N) (t : Int) : nxW I t = -1 ∨ (67 ≤ nxW I t ∧ nxW I t < N) := by
  unfold nxW
  by_cases c : nxM I t = -1
  · rw [cif_t c]; exact Or.inl rfl
  · rw [cif_f c]
    exact cel_v h.1 (lsO_r h.1 _ _)
theorem vic_r {I : Mm} {N : Int} (h : StoC I N) (d : Int) : vic I d = -1 ∨ (67 ≤ vic I d ∧ vic I d < N) := by
  have hz := h.1.1
  unfold vic
  by_cases c : d = 1
  · rw [cif_t c]
    refine cel_v h.1 ?_
    rcases bstL_r (fun _ => True) (fun i b => crk I 8 (I 14 b) ≤ crk I 8 (I 14 i)) (I 13 1).toNat with q | ⟨h1, h2, -⟩
    · exact Or.inl q
    · exact Or.inr ⟨h1, by unfold grL; omega⟩
  · rw [cif_f c]
    by_cases c : d = 2
    · rw [cif_t c]
      refine cel_v h.1 ?_
      rcases lstL_r (fun i => I (I 14 i) 1 = fuS I) (I 13 1).toNat with q | ⟨h1, h2, -⟩
      · exact Or.inl q
      · exact Or.inr ⟨h1, by unfold laO; omega⟩
    · rw [cif_f c]
      by_cases c : I 13 1 = 0
      · unfold lnA
        rw [cif_f (by omega)]
        exact Or.inl rfl
      · rw [lnA_in h.1 (by omega) (by omega)]
        exact Or.inr (h.1.2 _ (by omega) (by omega))
noncomputable def gPut (I : Mm) (b : Int) : Mm := up (up (up (up I 14 (I 13 1) b) 13 1 (I 13 1 + 1)) 16 (I 15 1) b) 15 1 (I 15 1 + 1)
theorem gPut_n {I : Mm} {b a : Int} (h : a ≠ 13 ∧ a ≠ 14 ∧ a ≠ 15 ∧ a ≠ 16) (k : Int) : gPut I b a k = I a k := by
  unfold gPut
  rw [up_c h.2.2.1, up_c h.2.2.2, up_c h.1, up_c h.2.1]
theorem gPut_z (I : Mm) (b : Int) : gPut I b 13 1 = I 13 1 + 1 ∧ gPut I b 15 1 = I 15 1 + 1 := by
  unfold gPut
  refine ⟨?_, up_s _ _ _ _⟩
  rw [up_c (by decide), up_c (by decide), up_s]
theorem gPut_14 (I : Mm) (b j : Int) : gPut I b 14 j = cif (j = I 13 1) b (I 14 j) ∧ gPut I b 16 j = cif (j = I 15 1) b (I 16 j) := by
  unfold gPut
  constructor
  · rw [up_c (by decide), up_c (by decide), up_c (by decide)]
    by_cases h : j = I 13 1
    · rw [cif_t h, h, up_s]
    · rw [cif_f h, up_k h]
  · rw [up_c (by decide)]
    by_cases h : j = I 15 1
    · rw [cif_t h, h, up_s]
    · rw [cif_f h, up_k h, up_c (by decide), up_c (by decide)]
theorem StoC_put {I : Mm} {N b : Int} (h : StoC I N) (hb : 67 ≤ b ∧ b < N) (hz : I 13 1 < 25) (hk : I 15 1 < 25) (hh : 0 ≤ I b 2 ∧ I b 2 ≤ 3) : StoC (gPut I b) N := by
  obtain ⟨z1, z2⟩ := gPut_z I b
  have l1 := h.1.1
  have l2 := h.2.1.1
  have e1 : ∀ j : Int, 0 ≤ j → j < I 13 1 + 1 → 67 ≤ gPut I b 14 j ∧ gPut I b 14 j < N ∧ 0 ≤ gPut I b (gPut I b 14 j) 2 ∧ gPut I b (gPut I b 14 j) 2 ≤ 3 := by
    intro j j0 j1
    rw [(gPut_14 I b j).1]
    by_cases q : j = I 13 1
    · rw [cif_t q, gPut_n (by omega)]; omega
    · rw [cif_f q]
      have a1 := h.1.2 j j0 (by omega)
      have a2 := h.2.2.1 j j0 (by omega)
      rw [gPut_n (by omega)]; omega
  have e2 : ∀ j : Int, 0 ≤ j → j < I 15 1 + 1 → 67 ≤ gPut I b 16 j ∧ gPut I b 16 j < N ∧ 0 ≤ gPut I b (gPut I b 16 j) 2 ∧ gPut I b (gPut I b 16 j) 2 ≤ 3 := by
    intro j j0 j1
    rw [(gPut_14 I b j).2]
    by_cases q : j = I 15 1
    · rw [cif_t q, gPut_n (by omega)]; omega
    · rw [cif_f q]
      have a1 := h.2.1.2 j j0 (by omega)
      have a2 := h.2.2.2 j j0 (by omega)
      rw [gPut_n (by omega)]; omega
  refine ⟨⟨by omega, fun j j0 j1 => ?_⟩, ⟨by omega, fun j j0 j1 => ?_⟩, fun j j0 j1 => ?_, fun j j0 j1 => ?_⟩
  · have := e1 j j0 (by omega); omega
  · have := e2 j j0 (by omega); omega
  · have := e1 j j0 (by omega); omega
  · have := e2 j j0 (by omega); omega
theorem gDis_n {I : Mm} {w a : Int} (h : a ≠ 13 ∧ a ≠ 14 ∧ a ≠ 15 ∧ a ≠ 16) (k : Int) : gDis I w a k = I a k := by
  unfold gDis
  rw [rmC_n h.2.2.1 h.2.2.2]
  unfold gDis1
  rw [rmC_n h.1 h.2.1]
theorem gTake_n {I : Mm} {q w a : Int} (h : a ≠ 13 ∧ a ≠ 14 ∧ a ≠ 15 ∧ a ≠ 16) (k : Int) : gTake I q w a k = I a k := by
  unfold gTake
  rw [rmC_n h.1 h.2.1, rmC_n h.2.2.1 h.2.2.2]
/-- a word is let in -/
noncomputable def gLet (I : Mm) (b : Int) : Mm := cif (I 11 3 ≤ I 13 1 ∧ 0 ≤ vic (gPut I b) (I 11 4)) (up (up (gDis (gPut I b) (vic (gPut I b) (I 11 4))) (vic (gPut I b) (I 11 4)) 10 3) 11 9 (I 11 9 + 1)) (gPut I b)
noncomputable def gStart (I : Mm) : Mm := cif (I 11 2 < 1000 ∧ 0 ≤ nxW I (I 11 6)) (up (up (up (up (up (up (gTake I (nxM I (I 11 6)) (nxW I (I 11 6))) (nxW I (I 11 6)) 10 1) (nxW I (I 11 6)) 11 (I 11 6)) (nxW I (I 11 6)) 12 (I 11 2)) 17 (I 11 2) (nxW I (I 11 6))) 11 2 (I 11 2 + 1)) 11 5 (nxW I (I 11 6))) I
noncomputable def gFin (I : Mm) : Mm := up (up (up (up I (I 11 5) 10 2) 11 7 (I (I 11 5) 8)) 11 8 (I 11 8 + 1)) 11 5 (-1)
noncomputable def goJ (I : Mm) : Mm := cif (I 11 5 < 0) (gStart I) I
noncomputable def goC (J : Mm) (t : Int) : Int := cif (J 11 5 < 0) (fGt J t) (J (J 11 5) 11 + J (J 11 5) 4)
noncomputable def goN (J : Mm) (t : Int) : Int := min t (max (J 11 6 + 1) (goC J t))
noncomputable def goA (J : Mm) (t : Int) : Int := cif (0 ≤ J 11 5 ∧ goC J t ≤ goN J t) (J 11 5) (-1)
noncomputable def goM (J : Mm) (t : Int) : Mm := cif (0 ≤ J 11 5 ∧ goC J t ≤ goN J t) (gFin (up J 11 6 (goN J t))) (up J 11 6 (goN J t))
theorem gStart_n {I : Mm} {a k : Int} (h : a ≠ 13 ∧ a ≠ 14 ∧ a ≠ 15 ∧ a ≠ 16 ∧ a ≠ 17) (h2 : a ≠ 11 ∨ (k ≠ 2 ∧ k ≠ 5)) (h3 : a ≠ nxW I (I 11 6) ∨ (k ≠ 10 ∧ k ≠ 11 ∧ k ≠ 12)) : gStart I a k = I a k := by
  unfold gStart
  by_cases c : I 11 2 < 1000 ∧ 0 ≤ nxW I (I 11 6)
  · rw [cif_t c, up_n (by omega), up_n (by omega), up_c h.2.2.2.2, up_n (by omega), up_n (by omega), up_n (by omega), gTake_n ⟨h.1, h.2.1, h.2.2.1, h.2.2.2.1⟩]
  · rw [cif_f c]
theorem gStart_5 (I : Mm) (h5 : I 11 5 = -1) : gStart I 11 5 = cif (I 11 2 < 1000 ∧ 0 ≤ nxW I (I 11 6)) (nxW I (I 11 6)) (-1) := by
  unfold gStart
  by_cases c : I 11 2 < 1000 ∧ 0 ≤ nxW I (I 11 6)
  · rw [cif_t c, cif_t c, up_s]
  · rw [cif_f c, cif_f c]; exact h5
theorem StoC_take {I : Mm} {N : Int} (h : StoC I N) (q w : Int) : StoC (gTake I q w) N := StoC_rm13 (StoC_rm15 h q) _
theorem StoC_dis {I : Mm} {N : Int} (h : StoC I N) (w : Int) : StoC (gDis I w) N := StoC_rm15 (StoC_rm13 h _) _
theorem StoC_up {I : Mm} {N a k v : Int} (h : StoC I N) (ha : a ≠ 13 ∧ a ≠ 14 ∧ a ≠ 15 ∧ a ≠ 16) (hk : k ≠ 2 ∨ a < 67) : StoC (up I a k v) N := by
  obtain ⟨h1, h2, h3, h4⟩ := h
  refine ⟨⟨?_, fun j j0 j1 => ?_⟩, ⟨?_, fun j j0 j1 => ?_⟩, fun j j0 j1 => ?_, fun j j0 j1 => ?_⟩
  · rw [up_c (by omega)]; exact h1.1
  · rw [up_c (by omega)] at j1; rw [up_c (by omega)]; exact h1.2 j j0 j1
  · rw [up_c (by omega)]; exact h2.1
  · rw [up_c (by omega)] at j1; rw [up_c (by omega)]; exact h2.2 j j0 j1
  · rw [up_c (by omega)] at j1; have := h1.2 j j0 j1; rw [up_c (a' := 14) (by omega), up_n (by omega)]; exact h3 j j0 j1
  · rw [up_c (by omega)] at j1; have := h2.2 j j0 j1; rw [up_c (a' := 16) (by omega), up_n (by omega)]; exact h4 j j0 j1
theorem StoC_start {I : Mm} {N : Int} (h : StoC I N) : StoC (gStart I) N := by
  unfold gStart
  by_cases c : I 11 2 < 1000 ∧ 0 ≤ nxW I (I 11 6)
  · have hw : 67 ≤ nxW I (I 11 6) := by have := nxW_r h (I 11 6); omega
    rw [cif_t c]
    refine StoC_up (StoC_up (StoC_up (StoC_up (StoC_up (StoC_up (StoC_take h _ _) ?_ ?_) ?_ ?_) ?_ ?_) ?_ ?_) ?_ ?_) ?_ ?_ <;> omega
  · rw [cif_f c]; exact h
/-- who is passed by whom: the which-th one -/
def ovR (I : Mm) (b k r : Int) : Prop := (∃ q : Int, 0 ≤ q ∧ q < I b 12 ∧ I b 0 < I (I 17 q) 0 ∧ cntW (fun i => I b 0 < I (I 17 i) 0) q.toNat = k ∧ r = I (I 17 q) 0) ∨ (cntW (fun i => I b 0 < I (I 17 i) 0) (I b 12).toNat ≤ k ∧ r = -4)
/-- what the port must be -/
def GoC (J : Mm) (N : Int) : Prop := StoC J N ∧ (J 11 5 = -1 ∨ (67 ≤ J 11 5 ∧ J 11 5 < N ∧ (0 ≤ J (J 11 5) 11 ∧ J (J 11 5) 11 ≤ 100000))) ∧ (0 ≤ J 11 6 ∧ J 11 6 ≤ 100000) ∧ (0 ≤ J 11 8 ∧ J 11 8 ≤ 100000) ∧ (0 ≤ J 11 2 ∧ J 11 2 ≤ 1000) ∧ ∀ w : Int, 67 ≤ w → w < N → 0 ≤ J w 4 ∧ J w 4 ≤ 99
theorem gStart_11 {I : Mm} {w : Int} (hw : 67 ≤ nxW I (I 11 6)) (c : I 11 2 < 1000) : gStart I (nxW I (I 11 6)) 11 = I 11 6 := by
  unfold gStart
  rw [cif_t ⟨c, by omega⟩, up_c (by omega), up_c (by omega), up_c (by omega), up_k (by decide), up_s]
theorem gStart_2 (I : Mm) : gStart I 11 2 = cif (I 11 2 < 1000 ∧ 0 ≤ nxW I (I 11 6)) (I 11 2 + 1) (I 11 2) := by
  unfold gStart
  by_cases c : I 11 2 < 1000 ∧ 0 ≤ nxW I (I 11 6)
  · rw [cif_t c, cif_t c, up_k (by decide), up_s]
  · rw [cif_f c, cif_f c]
theorem GoC_start {I : Mm} {N : Int} (h : GoC I N) (h5 : I 11 5 = -1) : GoC (gStart I) N := by
  obtain ⟨h1, h2, h3, h4, h6, h7⟩ := h
  have hw := nxW_r h1 (I 11 6)
  have e2 := gStart_2 I
  have e5 := gStart_5 I h5
  have e6 : gStart I 11 6 = I 11 6 := gStart_n (by decide) (Or.inr (by decide)) (by omega)
  have e8 : gStart I 11 8 = I 11 8 := gStart_n (by decide) (Or.inr (by decide)) (by omega)
  refine ⟨StoC_start h1, ?_, by rw [e6]; exact h3, by rw [e8]; exact h4, ?_, fun w w0 w1 => ?_⟩
  · by_cases c : I 11 2 < 1000 ∧ 0 ≤ nxW I (I 11 6)
    · rw [cif_t c] at e5
      rw [e5]
      refine Or.inr ⟨by omega, by omega, ?_⟩
      rw [gStart_11 (w := 0) (by omega) c.1]
      exact h3
    · rw [cif_f c] at e5
      exact Or.inl e5
  · rw [e2]
    by_cases c : I 11 2 < 1000 ∧ 0 ≤ nxW I (I 11 6)
    · rw [cif_t c]; omega
    · rw [cif_f c]; exact h6
  · rw [gStart_n (by omega) (by omega) (by omega)]
    exact h7 w w0 w1
