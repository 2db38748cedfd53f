/-! ===== behind has one answer ===== -/
theorem beh_at {I : Mm} {N w : Int} (hI : Inv I N) (h0 : 0 ≤ w) (h1 : w < I 49 6) (hs : I 55 (13 * w + 10) ≠ -4) : ∃ p : Int, 0 ≤ p ∧ p < 1000 ∧ I 56 p = w ∧ ∀ j : Int, 0 ≤ j → j < p → I 56 j ≠ w := by
  have hr := (hI.sw w h0 h1).2.2.2.2.2.2.2.2.2.1
  have hwd := hI.wd w h0 h1
  have hst : I 55 (13 * w + 9) = 1 ∨ I 55 (13 * w + 9) = 2 := by
    rcases (show I 55 (13 * w + 9) = 0 ∨ I 55 (13 * w + 9) = 1 ∨ I 55 (13 * w + 9) = 2 ∨ I 55 (13 * w + 9) = 3 by omega) with e | e | e | e
    · exact absurd (hwd.2.2.1 (Or.inl e)) hs
    · exact Or.inl e
    · exact Or.inr e
    · exact absurd (hwd.2.2.1 (Or.inr e)) hs
  obtain ⟨-, -, e3, e4⟩ := hwd.2.1 hst
  have hb := cntW_b (fun w => I 55 (13 * w + 9) = 1 ∨ I 55 (13 * w + 9) = 2) (I 49 6).toNat
  have hp := hI.po.2.2.2.2.2.2.2.2.1
  have hm := hI.sn.1
  refine ⟨I (67 + w) 12, e3.1, by omega, e4, fun j a b e => ?_⟩
  have ht := (hI.tu j a (by omega)).2.2.2
  rw [e] at ht
  omega
theorem beh_one {I : Mm} {N w k r1 r2 : Int} (hI : Inv I N) (h1 : behA I w k r1) (h2 : behA I w k r2) : r1 = r2 := by
  obtain ⟨a1, a2, a3⟩ := h1
  obtain ⟨b1, b2, b3⟩ := h2
  by_cases c : ¬ (0 ≤ w ∧ w ≤ I 49 6 - 1) ∨ k < -1
  · rw [a1 c, b1 c]
  · have c1 : 0 ≤ w ∧ w ≤ I 49 6 - 1 := Classical.byContradiction (fun x => c (Or.inl x))
    have c2 : -1 ≤ k := by
      rcases Int.lt_or_le k (-1) with x | x
      · exact absurd (Or.inr x) c
      · exact x
    by_cases d : I 55 (13 * w + 10) = -4
    · rw [a2 c1 c2 d, b2 c1 c2 d]
    · obtain ⟨p, p0, p1, p2, p3⟩ := beh_at hI c1.1 (by omega) d
      obtain ⟨x1, x2⟩ := a3 c1 c2 d p p0 p2 p3
      obtain ⟨y1, y2⟩ := b3 c1 c2 d p p0 p2 p3
      rcases (show k = -1 ∨ 0 ≤ k by omega) with e | e
      · rw [x1 e, y1 e]
      · have key : ∀ q : Int, 0 ≤ q → q < p → w < I 56 q → cntW (fun q => w < I 56 q) q.toNat < cntW (fun q => w < I 56 q) p.toNat := fun q q0 q1 q2 => cntW_lt (p := fun q => w < I 56 q) q0 (by omega) q2
        rcases x2 e with ⟨q, q0, q1, q2, q3, q4⟩ | ⟨q1, q2⟩ <;> rcases y2 e with ⟨u, u0, u1, u2, u3, u4⟩ | ⟨u1, u2⟩
        · have : q = u := cntW_inj (p := fun q => w < I 56 q) q0 u0 q2 u2 (by rw [q3, u3])
          rw [q4, u4, this]
        · have := key q q0 q1 q2; omega
        · have := key u u0 u1 u2; omega
        · rw [q2, u2]
