/-! ===== one tick ===== -/
noncomputable def gSend (I : Mm) (m p : Int) : Mm := up (up (up (up (up (up I 49 9 p) 55 (13 * m + 12) 0) 55 (13 * p + 9) 1) 55 (13 * p + 10) (I 49 7)) 56 (I 49 11) p) 49 11 (I 49 11 + 1)
noncomputable def gLeave (K : Mm) : Mm := up (up (up (up (up K 55 (13 * K 49 9 + 9) 2) 55 (13 * K 49 9 + 11) (K 49 7)) 49 8 (K 55 (13 * K 49 9 + 5))) 54 (K 55 (13 * K 49 9 + 6)) (K 54 (K 55 (13 * K 49 9 + 6)) + K 55 (13 * K 49 9 + 1))) 49 9 (-4)
noncomputable def gTail (J : Mm) : Mm := cif (up J 49 7 (J 49 7 + 1) 49 9 ≠ -4 ∧ up J 49 7 (J 49 7 + 1) 55 (13 * up J 49 7 (J 49 7 + 1) 49 9 + 10) + up J 49 7 (J 49 7 + 1) 55 (13 * up J 49 7 (J 49 7 + 1) 49 9 + 1) = up J 49 7 (J 49 7 + 1) 49 7) (gLeave (up J 49 7 (J 49 7 + 1))) (up J 49 7 (J 49 7 + 1))
noncomputable def gTick (I : Mm) : Mm := gTail (cif (I 49 9 = -4 ∧ mkN I ≠ -4) (gSend I (mkN I) (wOf I (I 55 (13 * mkN I + 8)))) I)
/-- what one tick needs of the state -/
def TickOK (I : Mm) : Prop := (0 ≤ I 49 6 ∧ I 49 6 ≤ 1000) ∧ (0 ≤ I 49 7 ∧ I 49 7 ≤ 100000) ∧ (I 49 9 = -4 ∨ (0 ≤ I 49 9 ∧ I 49 9 < I 49 6)) ∧ (I 49 9 = -4 → mkN I ≠ -4 → 0 ≤ I 49 11 ∧ I 49 11 < 1000) ∧ (∀ w : Int, 0 ≤ w → w < I 49 6 → (1 ≤ I 55 (13 * w + 1) ∧ I 55 (13 * w + 1) ≤ 99) ∧ (0 ≤ I 55 (13 * w + 6) ∧ I 55 (13 * w + 6) ≤ 7) ∧ (-4 ≤ I 55 (13 * w + 10) ∧ I 55 (13 * w + 10) ≤ 100000)) ∧ (∀ s : Int, 0 ≤ s → s ≤ 7 → 0 ≤ I 54 s ∧ I 54 s ≤ 1000000)
theorem mkN_v {I : Mm} (h : mkN I ≠ -4) : (0 ≤ mkN I ∧ mkN I < I 49 6) ∧ I 55 (13 * mkN I + 12) = 1 ∧ hasO I (I 55 (13 * mkN I + 8)) := by
  rcases bst_r (fun w => I 55 (13 * w + 12) = 1 ∧ hasO I (I 55 (13 * w + 8))) (fun w b => rk I w 1 < rk I b 1) (I 49 6).toNat with q | ⟨q1, q2, q3⟩
  · exact absurd q h
  · have e : mkN I = bst (fun w => I 55 (13 * w + 12) = 1 ∧ hasO I (I 55 (13 * w + 8))) (fun w b => rk I w 1 < rk I b 1) (I 49 6).toNat := rfl
    rw [e]
    exact ⟨⟨q1, by omega⟩, q3.1, q3.2⟩
theorem wOf_v {I : Mm} {h : Int} (hh : hasO I h) : (0 ≤ wOf I h ∧ wOf I h < I 49 6) ∧ opn I (wOf I h) ∧ I 55 (13 * wOf I h + 8) = h := by
  have h1 : anyW (fun w => opn I w ∧ I 55 (13 * w + 8) = h) ((I 49 6).toNat : Int) := by
    obtain ⟨w, a, b, c⟩ := hh
    exact ⟨w, a, by omega, c⟩
  rcases bst_r (fun w => opn I w ∧ I 55 (13 * w + 8) = h) (fun w b => rk I w 0 < rk I b 0) (I 49 6).toNat with q | ⟨q1, q2, q3⟩
  · exact absurd q (bst_some h1)
  · have e : wOf I h = bst (fun w => opn I w ∧ I 55 (13 * w + 8) = h) (fun w b => rk I w 0 < rk I b 0) (I 49 6).toNat := rfl
    rw [e]
    obtain ⟨w, a, b, c⟩ := hh
    exact ⟨⟨q1, by omega⟩, q3.1, q3.2⟩
theorem gTail_7 (J : Mm) : gTail J 49 7 = J 49 7 + 1 := by
  unfold gTail
  by_cases c : up J 49 7 (J 49 7 + 1) 49 9 ≠ -4 ∧ up J 49 7 (J 49 7 + 1) 55 (13 * up J 49 7 (J 49 7 + 1) 49 9 + 10) + up J 49 7 (J 49 7 + 1) 55 (13 * up J 49 7 (J 49 7 + 1) 49 9 + 1) = up J 49 7 (J 49 7 + 1) 49 7
  · rw [cif_t c]
    unfold gLeave
    rw [up_k (by decide), up_c (by decide), up_k (by decide), up_c (by decide), up_c (by decide), up_s]
  · rw [cif_f c, up_s]
theorem gTick_7 (I : Mm) : gTick I 49 7 = I 49 7 + 1 := by
  unfold gTick
  rw [gTail_7]
  by_cases c : I 49 9 = -4 ∧ mkN I ≠ -4
  · rw [cif_t c]
    unfold gSend
    rw [up_k (by decide), up_c (by decide), up_c (by decide), up_c (by decide), up_c (by decide), up_k (by decide)]
  · rw [cif_f c]
noncomputable def gTicksN (I : Mm) (n : Nat) : Mm := fld (fun M _ => gTick M) I n
noncomputable def aTicks (I : Mm) (n : Int) : Int := cif (1 ≤ n ∧ n ≤ 500) (cif (99999 < I 49 7 + n) (-3) (I 49 7 + n)) (-1)
noncomputable def gTicks (I : Mm) (n : Int) : Mm := cif ((1 ≤ n ∧ n ≤ 500) ∧ I 49 7 + n ≤ 99999) (gTicksN I n.toNat) I
