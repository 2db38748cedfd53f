/-! ===== order: the class's table serves the reference ===== -/
section OE
variable {I J : Mm} {N n : Int} {g : Int → Int}
theorem upR61 (I : Mm) (g : Int → Int) : upR I 61 g 61 = g ∧ (∀ a q : Int, a ≠ 61 → upR I 61 g a q = I a q) := ⟨by unfold upR; rw [if_pos rfl], fun a q h => upR_q h q⟩
theorem ltF_B (hI : Inv I N) (hg : ∀ q : Int, 0 ≤ q → q < n → J 23 q = 67 + g q ∧ 0 ≤ g q ∧ g q < I 49 6) (hf : ∀ a q : Int, 67 ≤ a → J a q = I a q) (s : Int) {i : Int} (a : 0 ≤ i) (b : i < n) : ltF J s i = ltB (upR I 61 g) s i := by
  obtain ⟨e, g0, g1⟩ := hg i a b
  have hw := hI.wr _ g0 g1
  obtain ⟨u1, u2⟩ := upR61 I g
  show max 0 (s + J (J 23 i) 4 - J (J 23 i) 6) = max 0 (s + upR I 61 g 55 (13 * upR I 61 g 61 i + 1) - upR I 61 g 55 (13 * upR I 61 g 61 i + 3))
  rw [e, hf _ 4 (by omega), hf _ 6 (by omega), u1, u2 55 _ (by decide), u2 55 _ (by decide), hw.2.2.2.2.1, hw.2.2.2.2.2.2.1]
theorem lnF_B (hI : Inv I N) (hg : ∀ q : Int, 0 ≤ q → q < n → J 23 q = 67 + g q ∧ 0 ≤ g q ∧ g q < I 49 6) (hf : ∀ a q : Int, 67 ≤ a → J a q = I a q) (r : Int) : lnF J r n.toNat = lnB (upR I 61 g) r n.toNat := by
  unfold lnF lnB sm
  refine fld_cong fun s i a b => ?_
  obtain ⟨e, g0, g1⟩ := hg i a (by omega)
  have hw := hI.wr _ g0 g1
  obtain ⟨u1, u2⟩ := upR61 I g
  show s + cif (bitP r i) (J (J 23 i) 4) 0 = s + cif (bitP r i) (upR I 61 g 55 (13 * upR I 61 g 61 i + 1)) 0
  rw [e, hf _ 4 (by omega), u1, u2 55 _ (by decide), hw.2.2.2.2.1]
theorem bbF_B (hI : Inv I N) (h22 : J 22 1 = n) (hg : ∀ q : Int, 0 ≤ q → q < n → J 23 q = 67 + g q ∧ 0 ≤ g q ∧ g q < I 49 6) (hf : ∀ a q : Int, 67 ≤ a → J a q = I a q) (E : Int → Int) (r : Int) : bbF J E (I 49 7) r = bbM (upR I 61 g) E n r := by
  unfold bbF bbM
  rw [h22]
  refine fstA_c (fun i a b => ?_)
  rw [lnF_B hI hg hf, ltF_B hI hg hf _ a (by omega), (upR61 I g).2 49 7 (by decide)]
theorem gnF_B (hI : Inv I N) (h22 : J 22 1 = n) (hg : ∀ q : Int, 0 ≤ q → q < n → J 23 q = 67 + g q ∧ 0 ≤ g q ∧ g q < I 49 6) (hf : ∀ a q : Int, 67 ≤ a → J a q = I a q) (E : Int → Int) : ∀ k : Nat, gnF J E (I 49 7) k = gnM (upR I 61 g) E n 0 k
  | 0 => rfl
  | k + 1 => by rw [gnF, gnM, gnF_B hI h22 hg hf E k, bbF_B hI h22 hg hf]
theorem LLp_B (hI : Inv I N) (hn : 1 ≤ n ∧ n ≤ 6) (h22 : J 22 1 = n) (hg : ∀ q : Int, 0 ≤ q → q < n → J 23 q = 67 + g q ∧ 0 ≤ g q ∧ g q < I 49 6) (hf : ∀ a q : Int, 67 ≤ a → J a q = I a q) {E : Int → Int} (h : LLp J E (I 49 7)) : TbM (upR I 61 g) E n := by
  have hp := pw_b (i := n) (by omega)
  have h' := h
  unfold LLp at h
  rw [h22] at h
  refine ⟨h.1, fun r r0 r1 => ⟨fun i a b c => ?_, ?_⟩, fun r r0 r1 => by have := h.2.2 r r0 r1; omega⟩
  · have e := h.2.1 r r0 r1
    unfold llS at e
    have hle := (mnP_le (p := bitP r) (f := fun i => ltF J (I 49 7 + lnF J r (J 22 1).toNat) i + E (r + 2 ^ i.toNat)) (m := 1000000000) (n := n.toNat)).2 i a (by omega) c
    rw [← e] at hle
    rw [h22, lnF_B hI hg hf, ltF_B hI hg hf _ a b] at hle
    rw [(upR61 I g).2 49 7 (by decide)]
    exact hle
  · rw [← bbF_B hI h22 hg hf]
    exact LLp_bb (by omega) h' r0 (by rw [h22]; exact r1)
end OE
