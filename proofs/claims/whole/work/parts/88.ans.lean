/-! ===== for the answers of simple calls ===== -/
theorem cnt_one {p : Int → Prop} {v : Int} {n : Nat} (h0 : 0 ≤ v) (h1 : v < n) (hp : p v) (hu : ∀ w : Int, 0 ≤ w → w < n → p w → w = v) : cntW p n = 1 := by
  have h := cntW_del (p := p) (q := fun _ => False) hp h0 (n := n) (fun w a b => ⟨fun x => x.elim, fun x => x.2 (hu w a b x.1)⟩)
  rw [cntW_0 (fun w a b x => x), cif_t h1] at h
  omega
theorem part_in {I : Mm} {N : Int} (h : Inv I N) {s : Int} (h0 : 0 ≤ s) (h1 : s ≤ 7) : (0 < I (25 + 2 * s) 5 ∨ 0 < cnS I s) ↔ isInS I s := by
  have hm := h.sn.1
  rw [(h.st s h0 h1).2.2.2.2, cnS_eq hm.1 h.wr h.li.1 s, cntW_pos]
  unfold isInS anyW
  constructor
  · rintro (a | ⟨w, a, b, c⟩)
    · exact Or.inl a
    · exact Or.inr ⟨w, a, by omega, c⟩
  · rintro (a | ⟨w, a, b, c⟩)
    · exact Or.inl a
    · exact Or.inr ⟨w, a, by omega, c⟩
theorem fld_a0 (f : Int → Int) (m : Int) : ∀ n : Nat, fld (fun a q => a + f q) m n = fld (fun a q => a + f q) 0 n + m
  | 0 => by simp [fld]
  | n + 1 => by
    have e : ∀ m : Int, fld (fun a q => a + f q) m (n + 1) = fld (fun a q => a + f q) m n + f n := fun _ => rfl
    rw [e, e, fld_a0 f m n]
    omega
theorem prom_eq {I : Mm} {N : Int} (h : Inv I N) {s : Int} (h0 : 0 ≤ s) (h1 : s ≤ 7) : fld (fun a q => a + cif (I (26 + 2 * q) 0 ≤ I (26 + 2 * s) 0 - 1) (I (26 + 2 * q) 6) 0) 0 8 = fld (fun a q => a + pLs I s q) 0 8 ∧ fld (fun a q => a + cif (I (26 + 2 * q) 0 ≤ I (26 + 2 * s) 0) (I (26 + 2 * q) 6) 0) 0 8 = fld (fun a q => a + pA I s q) 0 8 ∧ ∀ m : Int, fld (fun a q => a + cif (I (26 + 2 * q) 0 ≤ I (26 + 2 * s) 0) (I (26 + 2 * q) 5) 0) 0 8 + m = fld (fun a q => a + pB I s q) m 8 := by
  have e := (h.st s h0 h1).1 0 (by omega) (by omega)
  refine ⟨?_, ?_, fun m => ?_⟩
  · refine fld_cong fun a q q0 q1 => ?_
    have hq := (h.st q q0 (by omega)).1
    unfold pLs
    rw [hq 0 (by omega) (by omega), hq 6 (by omega) (by omega), e]
    congr 1
    exact cif_iff (by omega)
  · refine fld_cong fun a q q0 q1 => ?_
    have hq := (h.st q q0 (by omega)).1
    unfold pA
    rw [hq 0 (by omega) (by omega), hq 6 (by omega) (by omega), e]
  · rw [fld_a0 (pB I s) m 8]
    congr 1
    refine fld_cong fun a q q0 q1 => ?_
    have hq := (h.st q q0 (by omega)).1
    unfold pB
    rw [hq 0 (by omega) (by omega), hq 5 (by omega) (by omega), e]
/-- turns of the class beside the reference's -/
theorem turn_cnt {I : Mm} {N : Int} (h : Inv I N) {w p : Int} (w0 : 0 ≤ w) (w1 : w < I 49 6) (p0 : 0 ≤ p) (p1 : p ≤ I 49 11) : cntW (fun i => I (67 + w) 0 < I (I 17 i) 0) p.toNat = cntW (fun q => w < I 56 q) p.toNat := by
  refine cntW_c (fun i i0 i1 => ?_)
  have ht := h.tu i i0 (by omega)
  rw [(h.wr w w0 w1).1, ht.2.1, (h.wr _ ht.1.1 ht.1.2).1]
theorem beh_of {I : Mm} {N : Int} (h : Inv I N) {w k r : Int} (w0 : 0 ≤ w) (w1 : w < I 49 6) (hk : -1 ≤ k) (hs : I 55 (13 * w + 9) = 1 ∨ I 55 (13 * w + 9) = 2) (hr1 : k = -1 → r = cntW (fun i => I (67 + w) 0 < I (I 17 i) 0) (I (67 + w) 12).toNat) (hr2 : 0 ≤ k → ovR I (67 + w) k r) : behA I w k r := by
  obtain ⟨e1, e2, e3, e4⟩ := (h.wd w w0 w1).2.1 hs
  refine ⟨fun x => by omega, fun _ _ x => by omega, fun _ _ _ p p0 p1 p2 => ?_⟩
  have hp : p = I (67 + w) 12 := by
    have hle : p ≤ I (67 + w) 12 := by
      rcases Int.lt_or_le (I (67 + w) 12) p with c | c
      · exact absurd e4 (p2 _ e3.1 c)
      · exact c
    have := (h.tu p p0 (by omega)).2.2.2
    rw [p1] at this
    omega
  refine ⟨fun x => ?_, fun x => ?_⟩
  · rw [hr1 x, turn_cnt h w0 w1 e3.1 (by omega), hp]
  · rcases hr2 x with ⟨q, q0, q1, q2, q3, q4⟩ | ⟨q1, q2⟩
    · have ht := h.tu q q0 (by omega)
      rw [(h.wr w w0 w1).1, ht.2.1, (h.wr _ ht.1.1 ht.1.2).1] at q2
      rw [turn_cnt h w0 w1 q0 (by omega)] at q3
      rw [ht.2.1, (h.wr _ ht.1.1 ht.1.2).1] at q4
      exact Or.inl ⟨q, q0, by omega, q2, q3, q4⟩
    · rw [turn_cnt h w0 w1 e3.1 (by omega)] at q1
      exact Or.inr ⟨by rw [hp]; exact q1, q2⟩
