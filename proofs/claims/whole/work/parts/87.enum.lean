/-! ===== the lines of the class beside the columns of the reference ===== -/
/-- the words' fixed parts -/
def CWr (I : Mm) : Prop := ∀ w : Int, 0 ≤ w → w < I 49 6 → I (67 + w) 0 = w ∧ I (67 + w) 1 = I 55 (13 * w + 6) ∧ I (67 + w) 2 = I 55 (13 * w + 8) ∧ I (67 + w) 3 = I 55 (13 * w + 0) ∧ I (67 + w) 4 = I 55 (13 * w + 1) ∧ I (67 + w) 5 = I 55 (13 * w + 2) ∧ I (67 + w) 6 = I 55 (13 * w + 3) ∧ I (67 + w) 7 = I 55 (13 * w + 4) ∧ I (67 + w) 8 = I 55 (13 * w + 5) ∧ I (67 + w) 9 = I 55 (13 * w + 7)
theorem Inv.wr {I : Mm} {N : Int} (h : Inv I N) : CWr I := fun w a b => by
  obtain ⟨-, e0, e1, e2, e3, e4, e5, e6, e7, e8, e9, -⟩ := (h.wd w a b).1
  exact ⟨e0, e1, e2, e3, e4, e5, e6, e7, e8, e9⟩
theorem rnk {I : Mm} (hW : CWr I) (hR : CRu I) {w : Int} (h0 : 0 ≤ w) (h1 : w < I 49 6) : crk I 8 (67 + w) = rk I w 0 ∧ crk I 10 (67 + w) = rk I w 1 := by
  obtain ⟨-, -, -, e3, e4, e5, e6, e7, e8, -⟩ := hW w h0 h1
  have ht : ∀ k : Int, 0 ≤ k → k < (6 : Nat) → trt I (67 + w) k = I 55 (13 * w + k) := by
    intro k k0 k1
    unfold trt
    have : k = 0 ∨ k = 1 ∨ k = 2 ∨ k = 3 ∨ k = 4 ∨ k = 5 := by omega
    rcases this with rfl | rfl | rfl | rfl | rfl | rfl
    · rw [cif_t rfl]; exact e3
    · rw [cif_f (by decide), cif_t rfl]; exact e4
    · rw [cif_f (by decide), cif_f (by decide), cif_t rfl]; exact e5
    · rw [cif_f (by decide), cif_f (by decide), cif_f (by decide), cif_t rfl]; exact e6
    · rw [cif_f (by decide), cif_f (by decide), cif_f (by decide), cif_f (by decide), cif_f (by decide)]; exact e7
    · rw [cif_f (by decide), cif_f (by decide), cif_f (by decide), cif_f (by decide), cif_t rfl]; exact e8
  constructor
  · unfold crk rk
    refine fld_cong fun s k k0 k1 => ?_
    rw [ht k k0 k1, (hR k k0 (by omega)).1, show (6 : Int) * 0 + k = k by omega]
  · unfold crk rk
    refine fld_cong fun s k k0 k1 => ?_
    rw [ht k k0 k1, (hR k k0 (by omega)).2, show (6 : Int) * 1 + k = 6 + k by omega]
section EN
variable {I : Mm}
/-- counting over a line -/
theorem enm_cnt {p : Int → Prop} {m n : Int} {row : Int → Int} (h : enm p m row n) (hm : 0 ≤ m) {q r : Int → Prop} (hq : ∀ w : Int, 0 ≤ w → w < m → p w → (q (67 + w) ↔ r w)) : cntW (fun i => q (row i)) n.toNat = cntW (fun w => p w ∧ r w) m.toNat := by
  have h1 := h.1
  rw [h1]
  have key := enm_sim (p := p) (fun (a b : Int) => a = b) (fun a i => a + cif (q (row i)) 1 0) (fun b w => b + cif (p w ∧ r w) 1 0) m.toNat 0 0 rfl ?_ ?_
  · exact key
  · intro w a b w0 w1 pw e
    rw [e, h.2 w w0 (by omega) pw]
    congr 1
    exact cif_iff ⟨fun x => ⟨pw, (hq w w0 (by omega) pw).mp x⟩, fun x => (hq w w0 (by omega) pw).mpr x.2⟩
  · intro w a b w0 w1 pw e
    rw [cif_f (fun x => pw x.1), Int.add_zero]
    exact e
/-- the best one over a line -/
theorem enm_bst {p : Int → Prop} {m n : Int} {row : Int → Int} (h : enm p m row n) (hm : 0 ≤ m) {q : Int → Prop} {r : Int → Prop} {lc lm : Int → Int → Prop} (hq : ∀ w : Int, 0 ≤ w → w < m → p w → (q (67 + w) ↔ r w)) (hl : ∀ v w : Int, 0 ≤ v → v < m → p v → 0 ≤ w → w < m → p w → (lc (67 + v) (67 + w) ↔ lm v w)) :
    (bstL (fun i => q (row i)) (fun i b => lc (row i) (row b)) n.toNat = -1 ∧ bst (fun w => p w ∧ r w) lm m.toNat = -4) ∨ (bstL (fun i => q (row i)) (fun i b => lc (row i) (row b)) n.toNat = cntW p (bst (fun w => p w ∧ r w) lm m.toNat).toNat ∧ (0 ≤ bst (fun w => p w ∧ r w) lm m.toNat ∧ bst (fun w => p w ∧ r w) lm m.toNat < m) ∧ p (bst (fun w => p w ∧ r w) lm m.toNat) ∧ r (bst (fun w => p w ∧ r w) lm m.toNat)) := by
  have h1 := h.1
  rw [h1]
  have key := enm_sim (p := p) (fun (a b : Int) => (a = -1 ∧ b = -4) ∨ (a = cntW p b.toNat ∧ (0 ≤ b ∧ b < m) ∧ p b ∧ r b)) (fun b i => cif (q (row i) ∧ (b = -1 ∨ lc (row i) (row b))) i b) (fun b w => cif ((p w ∧ r w) ∧ (b = -4 ∨ lm w b)) w b) m.toNat (-1) (-4) (Or.inl ⟨rfl, rfl⟩) ?_ ?_
  · exact key
  · intro w a b w0 w1 pw e
    have ew := h.2 w w0 (by omega) pw
    rw [ew]
    have hqw := hq w w0 (by omega) pw
    have hc : (q (67 + w) ∧ (a = -1 ∨ lc (67 + w) (row a))) ↔ ((p w ∧ r w) ∧ (b = -4 ∨ lm w b)) := by
      rcases e with ⟨ea, eb⟩ | ⟨ea, eb, pb, rb⟩
      · exact ⟨fun x => ⟨⟨pw, hqw.mp x.1⟩, Or.inl eb⟩, fun x => ⟨hqw.mpr x.1.2, Or.inl ea⟩⟩
      · have hcb := cntW_b p b.toNat
        have er : row a = 67 + b := by rw [ea]; exact h.2 b eb.1 eb.2 pb
        rw [er, hl w b w0 (by omega) pw eb.1 eb.2 pb]
        exact ⟨fun x => ⟨⟨pw, hqw.mp x.1⟩, Or.inr (x.2.resolve_left (by omega))⟩, fun x => ⟨hqw.mpr x.1.2, Or.inr (x.2.resolve_left (by omega))⟩⟩
    by_cases c : (p w ∧ r w) ∧ (b = -4 ∨ lm w b)
    · rw [cif_t c, cif_t (hc.mpr c)]
      exact Or.inr ⟨rfl, ⟨w0, by omega⟩, c.1.1, c.1.2⟩
    · rw [cif_f c, cif_f (fun x => c (hc.mp x))]
      exact e
  · intro w a b w0 w1 pw e
    rw [cif_f (fun x => pw x.1.1)]
    exact e
/-- the last one over a line -/
theorem enm_lst {p : Int → Prop} {m n : Int} {row : Int → Int} (h : enm p m row n) (hm : 0 ≤ m) {q : Int → Prop} {r : Int → Prop} (hq : ∀ w : Int, 0 ≤ w → w < m → p w → (q (67 + w) ↔ r w)) :
    (lstL (fun i => q (row i)) n.toNat = -1 ∧ lstW (fun w => p w ∧ r w) m.toNat = -4) ∨ (lstL (fun i => q (row i)) n.toNat = cntW p (lstW (fun w => p w ∧ r w) m.toNat).toNat ∧ (0 ≤ lstW (fun w => p w ∧ r w) m.toNat ∧ lstW (fun w => p w ∧ r w) m.toNat < m) ∧ p (lstW (fun w => p w ∧ r w) m.toNat) ∧ r (lstW (fun w => p w ∧ r w) m.toNat)) := by
  have h1 := h.1
  rw [h1]
  have key := enm_sim (p := p) (fun (a b : Int) => (a = -1 ∧ b = -4) ∨ (a = cntW p b.toNat ∧ (0 ≤ b ∧ b < m) ∧ p b ∧ r b)) (fun b i => cif (q (row i)) i b) (fun b w => cif (p w ∧ r w) w b) m.toNat (-1) (-4) (Or.inl ⟨rfl, rfl⟩) ?_ ?_
  · exact key
  · intro w a b w0 w1 pw e
    rw [h.2 w w0 (by omega) pw]
    have hqw := hq w w0 (by omega) pw
    by_cases c : r w
    · rw [cif_t (hqw.mpr c), cif_t (show p w ∧ r w from ⟨pw, c⟩)]
      exact Or.inr ⟨rfl, ⟨w0, by omega⟩, pw, c⟩
    · rw [cif_f (fun x => c (hqw.mp x)), cif_f (show ¬ (p w ∧ r w) from fun x => c x.2)]
      exact e
  · intro w a b w0 w1 pw e
    rw [cif_f (fun x => pw x.1)]
    exact e
/-- the waiting line, the marks -/
abbrev EW (I : Mm) : Prop := enm (fun w => I 55 (13 * w + 9) = 0) (I 49 6) (I 14) (I 13 1)
abbrev EM (I : Mm) : Prop := enm (fun w => I 55 (13 * w + 12) = 1) (I 49 6) (I 16) (I 15 1)
theorem cnS_eq (hm : 0 ≤ I 49 6) (hW : CWr I) (hE : EW I) (s : Int) : cnS I s = cntW (fun w => I 55 (13 * w + 9) = 0 ∧ I 55 (13 * w + 6) = s) (I 49 6).toNat :=
  enm_cnt hE hm (q := fun c => I c 1 = s) (r := fun w => I 55 (13 * w + 6) = s) (fun w a b _ => by rw [(hW w a b).2.1])
theorem opC_eq (hm : 0 ≤ I 49 6) (hW : CWr I) (hE : EW I) (t : Int) : cntW (fun i => I (I 14 i) 9 ≤ t) (I 13 1).toNat = cntW (fun w => I 55 (13 * w + 9) = 0 ∧ I 55 (13 * w + 7) ≤ t) (I 49 6).toNat :=
  enm_cnt hE hm (q := fun c => I c 9 ≤ t) (r := fun w => I 55 (13 * w + 7) ≤ t) (fun w a b _ => by rw [(hW w a b).2.2.2.2.2.2.2.2.2])
theorem opH_eq (hm : 0 ≤ I 49 6) (hW : CWr I) (hE : EW I) (h : Int) : opH I (I 49 7) h (I 13 1) ↔ hasO I h := by
  constructor
  · rintro ⟨i, i0, i1, i2, i3⟩
    obtain ⟨w, a, b, c, -, e⟩ := hE.at hm i0 i1
    rw [e, (hW w a b).2.2.2.2.2.2.2.2.2] at i2
    rw [e, (hW w a b).2.2.1] at i3
    exact ⟨w, a, b, ⟨c, i2⟩, i3⟩
  · rintro ⟨w, a, b, ⟨c, d⟩, e⟩
    have hb := cntW_b (fun w => I 55 (13 * w + 9) = 0) w.toNat
    have hlt := cntW_lt (p := fun w => I 55 (13 * w + 9) = 0) (n := (I 49 6).toNat) a (by omega) c
    have er := hE.2 w a b c
    refine ⟨cntW (fun w => I 55 (13 * w + 9) = 0) w.toNat, hb.1, by rw [hE.1]; exact hlt, ?_, ?_⟩
    · rw [er, (hW w a b).2.2.2.2.2.2.2.2.2]; exact d
    · rw [er, (hW w a b).2.2.1]; exact e
theorem nxM_eq (hm : 0 ≤ I 49 6) (hW : CWr I) (hR : CRu I) (hE : EW I) (hK : EM I) : (nxM I (I 49 7) = -1 ∧ mkN I = -4) ∨ (nxM I (I 49 7) = cntW (fun w => I 55 (13 * w + 12) = 1) (mkN I).toNat ∧ (0 ≤ mkN I ∧ mkN I < I 49 6) ∧ I 55 (13 * mkN I + 12) = 1 ∧ hasO I (I 55 (13 * mkN I + 8)) ∧ I 16 (nxM I (I 49 7)) = 67 + mkN I) := by
  have key := enm_bst hK hm (q := fun c => opH I (I 49 7) (I c 2) (I 13 1)) (r := fun w => hasO I (I 55 (13 * w + 8))) (lc := fun c d => crk I 10 c < crk I 10 d) (lm := fun w b => rk I w 1 < rk I b 1) (fun w a b _ => by rw [(hW w a b).2.2.1]; exact opH_eq hm hW hE _) (fun v w v0 v1 _ w0 w1 _ => by rw [(rnk hW hR v0 v1).2, (rnk hW hR w0 w1).2])
  rcases key with ⟨a, b⟩ | ⟨a, b, c, d⟩
  · exact Or.inl ⟨a, b⟩
  · refine Or.inr ⟨a, b, c, d, ?_⟩
    have a' : nxM I (I 49 7) = cntW (fun w => I 55 (13 * w + 12) = 1) (mkN I).toNat := a
    rw [a']
    exact hK.2 (mkN I) b.1 b.2 c
theorem lsO_eq (hm : 0 ≤ I 49 6) (hW : CWr I) (hR : CRu I) (hE : EW I) (h : Int) : (lsO I h (I 49 7) = -1 ∧ wOf I h = -4) ∨ (lsO I h (I 49 7) = cntW (fun w => I 55 (13 * w + 9) = 0) (wOf I h).toNat ∧ (0 ≤ wOf I h ∧ wOf I h < I 49 6) ∧ I 55 (13 * wOf I h + 9) = 0 ∧ I 14 (lsO I h (I 49 7)) = 67 + wOf I h) := by
  have key := enm_bst hE hm (q := fun c => I c 2 = h ∧ I c 9 ≤ I 49 7) (r := fun w => I 55 (13 * w + 7) ≤ I 49 7 ∧ I 55 (13 * w + 8) = h) (lc := fun c d => crk I 8 c < crk I 8 d) (lm := fun w b => rk I w 0 < rk I b 0) (fun w a b _ => by rw [(hW w a b).2.2.1, (hW w a b).2.2.2.2.2.2.2.2.2]; exact and_comm) (fun v w v0 v1 _ w0 w1 _ => by rw [(rnk hW hR v0 v1).1, (rnk hW hR w0 w1).1])
  have e : wOf I h = bst (fun w => I 55 (13 * w + 9) = 0 ∧ I 55 (13 * w + 7) ≤ I 49 7 ∧ I 55 (13 * w + 8) = h) (fun w b => rk I w 0 < rk I b 0) (I 49 6).toNat := by
    unfold wOf bst
    refine fld_cong fun b w w0 w1 => cif_iff ?_
    unfold opn
    exact and_congr and_assoc Iff.rfl
  rcases key with ⟨a, b⟩ | ⟨a, b, c, d⟩
  · exact Or.inl ⟨a, by rw [e]; exact b⟩
  · refine Or.inr ⟨by rw [e]; exact a, by rw [e]; exact b, by rw [e]; exact c, ?_⟩
    have a' : lsO I h (I 49 7) = cntW (fun w => I 55 (13 * w + 9) = 0) (wOf I h).toNat := by rw [e]; exact a
    rw [a']
    exact hE.2 (wOf I h) (by rw [e]; exact b.1) (by rw [e]; exact b.2) (by rw [e]; exact c)
/-- who would be next -/
theorem nxW_eq (hm : 0 ≤ I 49 6) (hW : CWr I) (hR : CRu I) (hE : EW I) (hK : EM I) : (nxW I (I 49 7) = -1 ∧ aNext I = -4 ∧ mkN I = -4) ∨ (nxW I (I 49 7) = 67 + aNext I ∧ (0 ≤ aNext I ∧ aNext I < I 49 6) ∧ I 55 (13 * aNext I + 9) = 0 ∧ mkN I ≠ -4 ∧ aNext I = wOf I (I 55 (13 * mkN I + 8))) := by
  rcases nxM_eq hm hW hR hE hK with ⟨a, b⟩ | ⟨a, b, c, d, e⟩
  · exact Or.inl ⟨by unfold nxW; rw [cif_t a], by unfold aNext; rw [cif_t b], b⟩
  · have hcb := cntW_b (fun w => I 55 (13 * w + 12) = 1) (mkN I).toNat
    have ea : aNext I = wOf I (I 55 (13 * mkN I + 8)) := by unfold aNext; rw [cif_f (by omega)]
    have en : nxW I (I 49 7) = celL I 14 (lsO I (I 55 (13 * mkN I + 8)) (I 49 7)) := by
      unfold nxW
      rw [cif_f (by omega), e, (hW (mkN I) b.1 b.2).2.2.1]
    have hv := wOf_v d
    rcases lsO_eq hm hW hR hE (I 55 (13 * mkN I + 8)) with ⟨a2, b2⟩ | ⟨a2, b2, c2, e2⟩
    · omega
    · have hcb2 := cntW_b (fun w => I 55 (13 * w + 9) = 0) (wOf I (I 55 (13 * mkN I + 8))).toNat
      refine Or.inr ⟨?_, by rw [ea]; exact b2, by rw [ea]; exact c2, by omega, ea⟩
      rw [en, celL_i (by omega), e2, ea]
end EN
