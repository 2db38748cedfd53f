/-! ===== item, sheet, copy keep the invariant ===== -/
theorem wrF_c {I J : Mm} {s : Int} (h58 : J 58 s = I 58 s) (h59 : J 59 s = I 59 s) (lane i n : Int) : wrF J s lane i n = wrF I s lane i n := by
  unfold wrF
  rw [h58, h59]
theorem Inv.item1 {I : Mm} {N s lane i v : Int} (hI : Inv I N) (hF : Fx (gItem (kItem I s lane i v) s lane i v)) : Inv (gItem (kItem I s lane i v) s lane i v) N ∧ aItem (kItem I s lane i v) s lane i = aItem I s lane i := by
  unfold kItem at hF ⊢
  by_cases c : (0 ≤ s ∧ s ≤ 3) ∧ (0 ≤ lane ∧ lane ≤ 2) ∧ wrF I s lane i 1 = 1
  · rw [cif_t c] at hF ⊢
    have hin := wr_in hI.sh c.1 c.2.2
    have ew : wrF (up I (42 + 2 * s) i (lnv lane v)) s lane i 1 = wrF I s lane i 1 := wrF_c (up_c (by omega)) (up_c (by omega)) _ _ _
    have eg : gItem (up I (42 + 2 * s) i (lnv lane v)) s lane i v = up (up I (42 + 2 * s) i (lnv lane v)) 60 (24 * s + i) (lnv lane v) := by
      unfold gItem
      rw [ew, cif_t c]
    rw [eg] at hF ⊢
    refine ⟨hI.shee hF (fun a k h => by rw [up_c (by omega), up_c (by omega)]) (fun s' a b => ?_), by unfold aItem; rw [ew]⟩
    have h := hI.sh s' a b
    rw [up_c (a' := 58) (by decide), up_c (a' := 58) (by omega), up_c (a' := 59) (by decide), up_c (a' := 59) (by omega), up_c (a' := 41 + 2 * s') (by omega), up_c (a' := 41 + 2 * s') (by omega), up_c (a' := 41 + 2 * s') (by omega), up_c (a' := 41 + 2 * s') (by omega)]
    refine ⟨h.1, h.2.1, h.2.2.1, fun q q0 q1 => ?_⟩
    rw [up_c (a' := 42 + 2 * s') (by omega)]
    by_cases e : s' = s ∧ q = i
    · rw [e.1, e.2, up_s, up_s]
    · rw [up_n (by omega), up_k (by omega), up_c (by omega)]; exact h.2.2.2 q q0 q1
  · rw [cif_f c] at hF ⊢
    refine ⟨?_, rfl⟩
    have eg : gItem I s lane i v = I := by unfold gItem; rw [cif_f c]
    rw [eg]
    exact hI
theorem fil60 (J : Mm) (s : Int) : ∀ n : Nat, (∀ a k : Int, a ≠ 60 → fld (fun m i => up m 60 (24 * s + i) 0) J n a k = J a k) ∧ ∀ k : Int, fld (fun m i => up m 60 (24 * s + i) 0) J n 60 k = cif (24 * s ≤ k ∧ k < 24 * s + n) 0 (J 60 k)
  | 0 => ⟨fun _ _ _ => rfl, fun k => by rw [cif_f (by omega)]; rfl⟩
  | n + 1 => by
    obtain ⟨h1, h2⟩ := fil60 J s n
    have e : fld (fun m i => up m 60 (24 * s + i) 0) J (n + 1) = up (fld (fun m i => up m 60 (24 * s + i) 0) J n) 60 (24 * s + n) 0 := rfl
    rw [e]
    refine ⟨fun a k ha => by rw [up_c ha]; exact h1 a k ha, fun k => ?_⟩
    by_cases c : k = 24 * s + n
    · rw [c, up_s, cif_t (by omega)]
    · rw [up_k c, h2 k]
      exact cif_iff (by omega)
theorem Inv.sheet1 {I : Mm} {N s lane n : Int} (hI : Inv I N) (hF : Fx (gSheet (kSheet I s lane n) s lane n)) : Inv (gSheet (kSheet I s lane n) s lane n) N := by
  unfold kSheet at hF ⊢
  by_cases c : (0 ≤ s ∧ s ≤ 3) ∧ (0 ≤ lane ∧ lane ≤ 2) ∧ 0 ≤ n ∧ n ≤ 24
  · rw [cif_t c] at hF ⊢
    obtain ⟨K, eK⟩ : ∃ K : Mm, K = up (up (filR I (42 + 2 * s) 24 0) (41 + 2 * s) 1 lane) (41 + 2 * s) 2 n := ⟨_, rfl⟩
    rw [← eK] at hF ⊢
    have kf : ∀ a k : Int, a ≠ 42 + 2 * s → ¬ (a = 41 + 2 * s ∧ (k = 1 ∨ k = 2)) → K a k = I a k := fun a k h1 h2 => by rw [eK, up_n (by omega), up_n (by omega), filR_row h1]
    have k1 : K (41 + 2 * s) 1 = lane := by rw [eK, up_k (by decide), up_s]
    have k2 : K (41 + 2 * s) 2 = n := by rw [eK, up_s]
    have k3 : ∀ q : Int, 0 ≤ q → q ≤ 23 → K (42 + 2 * s) q = 0 := fun q q0 q1 => by rw [eK, up_c (by omega), up_c (by omega), filR_in (by omega)]
    have eg : gSheet K s lane n = fld (fun m i => up m 60 (24 * s + i) 0) (up (up K 58 s lane) 59 s n) 24 := by unfold gSheet; rw [cif_t c]
    rw [eg] at hF ⊢
    obtain ⟨f1, f2⟩ := fil60 (up (up K 58 s lane) 59 s n) s 24
    generalize fld (fun m i => up m 60 (24 * s + i) 0) (up (up K 58 s lane) 59 s n) 24 = J at hF f1 f2 ⊢
    have j58 : ∀ q : Int, J 58 q = cif (q = s) lane (I 58 q) := fun q => by
      rw [f1 58 q (by decide), up_c (by decide)]
      by_cases e : q = s
      · rw [cif_t e, e, up_s]
      · rw [cif_f e, up_k e, kf 58 q (by omega) (by omega)]
    have j59 : ∀ q : Int, J 59 q = cif (q = s) n (I 59 q) := fun q => by
      rw [f1 59 q (by decide)]
      by_cases e : q = s
      · rw [cif_t e, e, up_s]
      · rw [cif_f e, up_k e, up_c (by decide), kf 59 q (by omega) (by omega)]
    have jc : ∀ a q : Int, a ≠ 60 → a ≠ 58 → a ≠ 59 → J a q = K a q := fun a q h1 h2 h3 => by rw [f1 a q h1, up_c h3, up_c h2]
    have j60 : ∀ q : Int, J 60 q = cif (24 * s ≤ q ∧ q < 24 * s + 24) 0 (I 60 q) := fun q => by
      rw [f2 q, up_c (by decide), up_c (by decide), kf 60 q (by omega) (by omega)]
      rfl
    refine hI.shee hF (fun a k h => by rw [jc a k (by omega) (by omega) (by omega)]; exact kf a k (by omega) (by omega)) (fun s' a b => ?_)
    have h := hI.sh s' a b
    rw [j58, j59, jc (41 + 2 * s') 1 (by omega) (by omega) (by omega), jc (41 + 2 * s') 2 (by omega) (by omega) (by omega)]
    by_cases e : s' = s
    · subst e
      rw [cif_t rfl, cif_t rfl, k1, k2]
      refine ⟨Or.inr ⟨by omega, by omega, rfl⟩, rfl, by omega, fun q q0 q1 => ?_⟩
      rw [jc _ q (by omega) (by omega) (by omega), k3 q q0 q1, j60, cif_t (by omega)]
    · rw [cif_f e, cif_f e, kf _ 1 (by omega) (by omega), kf _ 2 (by omega) (by omega)]
      refine ⟨h.1, h.2.1, h.2.2.1, fun q q0 q1 => ?_⟩
      rw [jc _ q (by omega) (by omega) (by omega), kf _ q (by omega) (by omega), j60, cif_f (by omega)]
      exact h.2.2.2 q q0 q1
  · rw [cif_f c] at hF ⊢
    have eg : gSheet I s lane n = I := by unfold gSheet; rw [cif_f c]
    rw [eg]
    exact hI
theorem Inv.copy1 {I J : Mm} {N f i t j n : Int} (hI : Inv I N) (hF : Fx J) (hJ : (okCopy (kCopy I f i t j n) f i t j n → ∀ a q : Int, a ≠ 61 → J a q = gCopy (kCopy I f i t j n) f i t j n a q) ∧ (¬ okCopy (kCopy I f i t j n) f i t j n → J = kCopy I f i t j n)) : Inv J N ∧ aCopy (kCopy I f i t j n) f i t j n = aCopy I f i t j n := by
  by_cases c : okCopy I f i t j n
  · have ec := c
    obtain ⟨c1, c2, c3, c4⟩ := ec
    have i1 := wr_in hI.sh c1.1 c3
    have i2 := wr_in hI.sh c1.2 c4
    obtain ⟨K, eK⟩ : ∃ K : Mm, K = kCopy I f i t j n := ⟨_, rfl⟩
    rw [← eK] at hJ ⊢
    unfold kCopy at eK
    rw [cif_t c] at eK
    have kf : ∀ a q : Int, a ≠ 42 + 2 * t → K a q = I a q := fun a q h => by rw [eK, upR_q h]
    have kt : ∀ q : Int, K (42 + 2 * t) q = if j ≤ q ∧ q < j + n then I (42 + 2 * f) (i + (q - j)) else I (42 + 2 * t) q := fun q => by rw [eK]; unfold upR; rw [if_pos rfl]
    have e1 : ∀ x y z w : Int, wrF K x y z w = wrF I x y z w := fun x y z w => wrF_c (kf 58 x (by omega)) (kf 59 x (by omega)) y z w
    have ea : aCopy K f i t j n = aCopy I f i t j n := by
      unfold aCopy
      rw [e1, e1, kf 58 f (by omega), kf 58 t (by omega)]
    have ok : okCopy K f i t j n := by
      unfold okCopy
      rw [e1, e1, kf 58 f (by omega), kf 58 t (by omega)]
      exact c
    refine ⟨?_, ea⟩
    have hj := hJ.1 ok
    have j0 : ∀ a q : Int, a ≠ 60 → a ≠ 61 → J a q = K a q := fun a q h1 h2 => by rw [hj a q h2]; unfold gCopy; rw [cif_f (by omega)]
    have j60 : ∀ q : Int, J 60 q = cif (24 * t + j ≤ q ∧ q < 24 * t + j + n) (I 60 (24 * f + (i + (q - (24 * t + j))))) (I 60 q) := fun q => by
      rw [hj 60 q (by decide)]
      unfold gCopy
      rw [kf 60 _ (by omega), kf 60 _ (by omega)]
      exact cif_iff (by omega)
    refine hI.shee hF (fun a q h => by rw [j0 a q (by omega) (by omega)]; exact kf a q (by omega)) (fun s' a b => ?_)
    have h := hI.sh s' a b
    rw [j0 58 _ (by decide) (by decide), kf 58 _ (by omega), j0 59 _ (by decide) (by decide), kf 59 _ (by omega), j0 _ 1 (by omega) (by omega), kf _ 1 (by omega), j0 _ 2 (by omega) (by omega), kf _ 2 (by omega)]
    refine ⟨h.1, h.2.1, h.2.2.1, fun q q0 q1 => ?_⟩
    rw [j0 _ q (by omega) (by omega), j60]
    by_cases e : s' = t
    · rw [e, kt]
      by_cases d : j ≤ q ∧ q < j + n
      · rw [if_pos d, cif_t (by omega), (hI.sh f c1.1.1 c1.1.2).2.2.2 _ (by omega) (by omega)]
        congr 1
        omega
      · rw [if_neg d, cif_f (by omega)]
        exact (hI.sh t c1.2.1 c1.2.2).2.2.2 q q0 q1
    · rw [kf _ q (by omega), cif_f (by omega)]
      exact h.2.2.2 q q0 q1
  · have eK : kCopy I f i t j n = I := by unfold kCopy; rw [cif_f c]
    rw [eK] at hJ ⊢
    rw [hJ.2 c]
    exact ⟨hI, rfl⟩
