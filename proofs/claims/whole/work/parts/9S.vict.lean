/-! ===== who is dropped: the class's way is the reference's ===== -/
section VI
variable {I : Mm}
theorem grL_eq (hm : 0 ≤ I 49 6) (hW : CWr I) (hR : CRu I) (hE : EW I) : (grL I = -1 ∧ grt I = -4) ∨ (celL I 14 (grL I) = 67 + grt I ∧ (0 ≤ grt I ∧ grt I < I 49 6) ∧ I 55 (13 * grt I + 9) = 0) := by
  have key := enm_bst hE hm (q := fun _ => True) (r := fun _ => True) (lc := fun c d => crk I 8 d ≤ crk I 8 c) (lm := fun w b => rk I b 0 ≤ rk I w 0) (fun w _ _ _ => Iff.rfl) (fun v w v0 v1 _ w0 w1 _ => by rw [(rnk hW hR v0 v1).1, (rnk hW hR w0 w1).1])
  have e : grt I = bst (fun w => I 55 (13 * w + 9) = 0 ∧ True) (fun w b => rk I b 0 ≤ rk I w 0) (I 49 6).toNat := by
    unfold grt bst
    exact fld_cong fun b w w0 w1 => cif_iff (and_congr ⟨fun x => ⟨x, trivial⟩, fun x => x.1⟩ Iff.rfl)
  rw [← e] at key
  rcases key with ⟨a, b⟩ | ⟨a, b, c, -⟩
  · exact Or.inl ⟨a, b⟩
  · refine Or.inr ⟨?_, b, c⟩
    have hb := cntW_b (fun w => I 55 (13 * w + 9) = 0) (grt I).toNat
    have a' : grL I = cntW (fun w => I 55 (13 * w + 9) = 0) (grt I).toNat := a
    rw [celL_i (by omega), a']
    exact hE.2 (grt I) b.1 b.2 c
theorem laO_eq (hm : 0 ≤ I 49 6) (hW : CWr I) (hE : EW I) (s : Int) : (laO I s = -1 ∧ lstW (fun w => I 55 (13 * w + 9) = 0 ∧ I 55 (13 * w + 6) = s) (I 49 6).toNat = -4) ∨ (celL I 14 (laO I s) = 67 + lstW (fun w => I 55 (13 * w + 9) = 0 ∧ I 55 (13 * w + 6) = s) (I 49 6).toNat ∧ 0 ≤ laO I s) := by
  have key := enm_lst hE hm (q := fun c => I c 1 = s) (r := fun w => I 55 (13 * w + 6) = s) (fun w a b _ => by rw [(hW w a b).2.1])
  rcases key with ⟨a, b⟩ | ⟨a, b, c, d⟩
  · exact Or.inl ⟨a, b⟩
  · have hb := cntW_b (fun w => I 55 (13 * w + 9) = 0) (lstW (fun w => I 55 (13 * w + 9) = 0 ∧ I 55 (13 * w + 6) = s) (I 49 6).toNat).toNat
    have a' : laO I s = cntW (fun w => I 55 (13 * w + 9) = 0) (lstW (fun w => I 55 (13 * w + 9) = 0 ∧ I 55 (13 * w + 6) = s) (I 49 6).toNat).toNat := a
    refine Or.inr ⟨?_, by omega⟩
    rw [celL_i (by omega), a']
    exact hE.2 _ b.1 b.2 c
end VI
