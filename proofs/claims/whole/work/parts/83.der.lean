/-! ===== what follows from it ===== -/
theorem str_at {I : Mm} (hF : Fx I) {i : Int} (h0 : 0 ≤ i) (h1 : i ≤ 7) : I 1 i = 25 + 2 * i := by
  have h8 : i = 0 ∨ i = 1 ∨ i = 2 ∨ i = 3 ∨ i = 4 ∨ i = 5 ∨ i = 6 ∨ i = 7 := by omega
  rcases h8 with rfl | rfl | rfl | rfl | rfl | rfl | rfl | rfl <;> exact hF.1 _ _ _ rfl
theorem shee_at {I : Mm} (hF : Fx I) {i : Int} (h0 : 0 ≤ i) (h1 : i ≤ 3) : I 2 i = 41 + 2 * i := by
  have h8 : i = 0 ∨ i = 1 ∨ i = 2 ∨ i = 3 := by omega
  rcases h8 with rfl | rfl | rfl | rfl <;> exact hF.1 _ _ _ rfl
theorem str_no {I : Mm} (hF : Fx I) {i : Int} (h0 : 0 ≤ i) (h1 : i ≤ 7) : I (25 + 2 * i) 0 = i := by
  have h8 : i = 0 ∨ i = 1 ∨ i = 2 ∨ i = 3 ∨ i = 4 ∨ i = 5 ∨ i = 6 ∨ i = 7 := by omega
  rcases h8 with rfl | rfl | rfl | rfl | rfl | rfl | rfl | rfl <;> exact hF.1 _ _ _ rfl
theorem cnt4 {p : Int → Prop} {f : Int → Int} {n : Nat} (h : ∀ w : Int, 0 ≤ w → w < n → 0 ≤ f w ∧ f w ≤ 3) : cntW p n = cntW (fun w => p w ∧ f w = 0) n + cntW (fun w => p w ∧ f w = 1) n + cntW (fun w => p w ∧ f w = 2) n + cntW (fun w => p w ∧ f w = 3) n := by
  rw [← cntW_add (r := fun w => p w ∧ f w ≤ 1) (p := fun w => p w ∧ f w = 0) (q := fun w => p w ∧ f w = 1) (fun w a b => by
        have := h w a b
        refine ⟨⟨fun r => ?_, fun r => ?_⟩, fun r => by omega⟩
        · rcases (show f w = 0 ∨ f w = 1 by omega) with c | c
          · exact Or.inl ⟨r.1, c⟩
          · exact Or.inr ⟨r.1, c⟩
        · rcases r with r | r <;> exact ⟨r.1, by omega⟩),
    ← cntW_add (r := fun w => p w ∧ f w ≤ 2) (p := fun w => p w ∧ f w ≤ 1) (q := fun w => p w ∧ f w = 2) (fun w a b => by
        have := h w a b
        refine ⟨⟨fun r => ?_, fun r => ?_⟩, fun r => by omega⟩
        · rcases (show f w ≤ 1 ∨ f w = 2 by omega) with c | c
          · exact Or.inl ⟨r.1, c⟩
          · exact Or.inr ⟨r.1, c⟩
        · rcases r with r | r <;> exact ⟨r.1, by omega⟩),
    ← cntW_add (r := p) (p := fun w => p w ∧ f w ≤ 2) (q := fun w => p w ∧ f w = 3) (fun w a b => by
        have := h w a b
        refine ⟨⟨fun r => ?_, fun r => ?_⟩, fun r => by omega⟩
        · rcases (show f w ≤ 2 ∨ f w = 3 by omega) with c | c
          · exact Or.inl ⟨r, c⟩
          · exact Or.inr ⟨r, c⟩
        · rcases r with r | r <;> exact r.1)]
section DE
variable {I : Mm} {N : Int}
theorem Inv.nb (h : Inv I N) : 67 ≤ N ∧ N ≤ 1067 := by
  have h1 := h.n
  have h2 := h.sn.1
  omega
theorem Inv.hou (h : Inv I N) {w : Int} (h0 : 0 ≤ w) (h1 : w < I 49 6) : 0 ≤ I 55 (13 * w + 8) ∧ I 55 (13 * w + 8) ≤ 3 := (h.sw w h0 h1).2.2.2.2.2.2.2.2.1
theorem Inv.sz (h : Inv I N) : I 15 1 = I 13 1 := by
  have hm := h.sn.1
  obtain ⟨h1, h2, -, h4⟩ := h.li
  rw [h1.1, h2.1]
  have hh : ∀ w : Int, 0 ≤ w → w < ((I 49 6).toNat : Int) → 0 ≤ I 55 (13 * w + 8) ∧ I 55 (13 * w + 8) ≤ 3 := fun w a b => h.hou a (by omega)
  rw [cnt4 (p := fun w => I 55 (13 * w + 12) = 1) (f := fun w => I 55 (13 * w + 8)) hh, cnt4 (p := fun w => I 55 (13 * w + 9) = 0) (f := fun w => I 55 (13 * w + 8)) hh]
  have a0 := h4 0
  have a1 := h4 1
  have a2 := h4 2
  have a3 := h4 3

  omega
theorem Inv.sto (h : Inv I N) : StoC I N := by
  have hm := h.sn.1
  have hn := h.n
  have hz := h.sz
  obtain ⟨h1, h2, h3, -⟩ := h.li
  have b1 := cntW_b (fun w => I 55 (13 * w + 9) = 0) (I 49 6).toNat
  have e1 := h1.1
  refine ⟨⟨by omega, fun i i0 i1 => ?_⟩, ⟨by omega, fun i i0 i1 => ?_⟩, fun i i0 i1 => ?_, fun i i0 i1 => ?_⟩
  · obtain ⟨w, a, b, -, -, e⟩ := h1.at hm.1 i0 i1
    rw [e]; omega
  · obtain ⟨w, a, b, -, -, e⟩ := h2.at hm.1 i0 i1
    rw [e]; omega
  · obtain ⟨w, a, b, -, -, e⟩ := h1.at hm.1 i0 i1
    have := h.hou a b
    rw [e, (h.wd w a b).1.2.2.2.1]; exact this
  · obtain ⟨w, a, b, -, -, e⟩ := h2.at hm.1 i0 i1
    have := h.hou a b
    rw [e, (h.wd w a b).1.2.2.2.1]; exact this
theorem Inv.tpc (h : Inv I N) : TpC I := by
  obtain ⟨h1, h2, -⟩ := h.tp
  have h3 := h.sn.2.2.2.2.2.1
  refine ⟨by omega, fun q a b => ?_⟩
  have := h2 q a (by omega)
  omega
theorem Inv.goc (h : Inv I N) : GoC I N := by
  have hm := h.sn.1
  have hn := h.n
  have h7 := h.sn.2.1
  obtain ⟨p1, p2, p3, p4, p5, p6, p7, p8, p9, p10⟩ := h.po
  have b1 := cntW_b (fun w => I 55 (13 * w + 9) = 2) (I 49 6).toNat
  have b2 := cntW_b (fun w => I 55 (13 * w + 9) = 1 ∨ I 55 (13 * w + 9) = 2) (I 49 6).toNat
  refine ⟨h.sto, ?_, by omega, by omega, by omega, fun w w0 w1 => ?_⟩
  · rcases p10 with ⟨a, b, -⟩ | ⟨a, b, c, d, e⟩
    · exact Or.inl b
    · refine Or.inr ⟨by omega, by omega, ?_⟩
      have hw := (h.wd (I 49 9) a.1 a.2).2.1 (Or.inl c)
      rw [b, hw.1]; omega
  · obtain ⟨v, rfl⟩ : ∃ v : Int, w = 67 + v := ⟨w - 67, by omega⟩
    have e := (h.wd v (by omega) (by omega)).1.2.2.2.2.2.1
    have := (h.sw v (by omega) (by omega)).2.1
    rw [e]; omega
/-- a rank of the class is the reference's -/
theorem Inv.rnk (h : Inv I N) {w : Int} (h0 : 0 ≤ w) (h1 : w < I 49 6) : crk I 8 (67 + w) = rk I w 0 ∧ crk I 10 (67 + w) = rk I w 1 := by
  obtain ⟨-, -, -, -, e3, e4, e5, e6, e7, e8, -⟩ := (h.wd w h0 h1).1
  have ht : ∀ k : Int, 0 ≤ k → k < (6 : Nat) → trt I (67 + w) k = I 55 (13 * w + k) := by
    intro k k0 k1
    unfold trt
    have : k = 0 ∨ k = 1 ∨ k = 2 ∨ k = 3 ∨ k = 4 ∨ k = 5 := by omega
    rcases this with rfl | rfl | rfl | rfl | rfl | rfl
    · rw [cif_t rfl]; exact e3
    · rw [cif_f (by decide), cif_t rfl]; exact e4
    · rw [cif_f (by decide), cif_f (by decide), cif_t rfl]; exact e5
    · rw [cif_f (by decide), cif_f (by decide), cif_f (by decide), cif_t rfl]; exact e6
    · rw [cif_f (by decide), cif_f (by decide), cif_f (by decide), cif_f (by decide), cif_f (by decide)]; exact e7
    · rw [cif_f (by decide), cif_f (by decide), cif_f (by decide), cif_f (by decide), cif_t rfl]; exact e8
  constructor
  · unfold crk rk
    refine fld_cong fun s k k0 k1 => ?_
    rw [ht k k0 k1, (h.ru k k0 (by omega)).1, show (6 : Int) * 0 + k = k by omega]
  · unfold crk rk
    refine fld_cong fun s k k0 k1 => ?_
    rw [ht k k0 k1, (h.ru k k0 (by omega)).2, show (6 : Int) * 1 + k = 6 + k by omega]
end DE
