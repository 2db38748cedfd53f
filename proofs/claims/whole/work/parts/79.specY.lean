/-! ===== sorting by insertion: a row with a hole ===== -/
def upF (R : Int → Int) (k v : Int) : Int → Int := fun q => if q = k then v else R q
theorem upF_s (R : Int → Int) (k v : Int) : upF R k v k = v := by unfold upF; rw [if_pos rfl]
theorem upF_n {R : Int → Int} {k v q : Int} (h : q ≠ k) : upF R k v q = R q := by unfold upF; rw [if_neg h]
theorem up_F (M : Mm) (a k v : Int) : up M a k v a = upF (M a) k v := by
  funext q
  by_cases h : q = k
  · rw [h, up_s, upF_s]
  · rw [up_k h, upF_n h]
/-- the first i of g are sorted in R, the others as they were -/
def sOut (nm g : Int → Int) (n i : Int) (R : Int → Int) : Prop :=
  (∀ p q : Int, 0 ≤ p → p < q → q < i → nm (R p) < nm (R q)) ∧ (∀ q : Int, i ≤ q → q < n → R q = g q) ∧ ∀ v : Int, (∃ q : Int, 0 ≤ q ∧ q < i ∧ R q = v) ↔ (∃ q : Int, 0 ≤ q ∧ q < i ∧ g q = v)
def sIn (nm g : Int → Int) (n i k w : Int) (R : Int → Int) : Prop :=
  (∀ p q : Int, 0 ≤ p → p < q → q ≤ i → p ≠ k → q ≠ k → nm (R p) < nm (R q)) ∧ (∀ q : Int, k < q → q ≤ i → nm w < nm (R q)) ∧ (∀ q : Int, i < q → q < n → R q = g q) ∧ ∀ v : Int, (∃ q : Int, 0 ≤ q ∧ q ≤ i ∧ q ≠ k ∧ R q = v) ↔ (∃ q : Int, 0 ≤ q ∧ q < i ∧ g q = v)
theorem sOut_1 (nm g : Int → Int) (n : Int) : sOut nm g n 1 g := ⟨fun p q a b c => by omega, fun _ _ _ => rfl, fun v => Iff.rfl⟩
theorem sIn_0 {nm g : Int → Int} {n i : Int} {R : Int → Int} (w : Int) (h : sOut nm g n i R) : sIn nm g n i i w R := by
  obtain ⟨h1, h2, h3⟩ := h
  refine ⟨fun p q a b c d e => h1 p q a b (by omega), fun q a b => by omega, fun q a b => h2 q (by omega) b, fun v => ?_⟩
  rw [← h3 v]
  constructor
  · rintro ⟨q, a, b, c, d⟩
    exact ⟨q, a, by omega, d⟩
  · rintro ⟨q, a, b, d⟩
    exact ⟨q, a, by omega, by omega, d⟩
theorem sIn_s {nm g : Int → Int} {n i k w : Int} {R : Int → Int} (h : sIn nm g n i k w R) (hk : 0 < k ∧ k ≤ i) (hl : nm w < nm (R (k - 1))) : sIn nm g n i (k - 1) w (upF R k (R (k - 1))) := by
  obtain ⟨h1, h2, h3, h4⟩ := h
  refine ⟨fun p q a b c d e => ?_, fun q a b => ?_, fun q a b => ?_, fun v => ?_⟩
  · by_cases hq : q = k
    · subst hq
      rw [upF_s, upF_n (by omega)]
      exact h1 p (q - 1) a (by omega) (by omega) (by omega) (by omega)
    · rw [upF_n hq]
      by_cases hp : p = k
      · subst hp
        rw [upF_s]
        exact h1 (p - 1) q (by omega) (by omega) c (by omega) (by omega)
      · rw [upF_n hp]
        exact h1 p q a b c hp hq
  · by_cases hq : q = k
    · subst hq; rw [upF_s]; exact hl
    · rw [upF_n hq]; exact h2 q (by omega) b
  · rw [upF_n (by omega)]; exact h3 q a b
  · rw [← h4 v]
    constructor
    · rintro ⟨q, a, b, c, d⟩
      by_cases hq : q = k
      · subst hq; rw [upF_s] at d; exact ⟨q - 1, by omega, by omega, by omega, d⟩
      · rw [upF_n hq] at d; exact ⟨q, a, b, hq, d⟩
    · rintro ⟨q, a, b, c, d⟩
      by_cases hq : q = k - 1
      · subst hq; exact ⟨k, by omega, by omega, by omega, by rw [upF_s]; exact d⟩
      · exact ⟨q, a, b, hq, by rw [upF_n c]; exact d⟩
theorem sIn_e {nm g : Int → Int} {n i k w : Int} {R : Int → Int} (h : sIn nm g n i k w R) (hk : 0 ≤ k ∧ k ≤ i) (hw : w = g i) (hd : ∀ p : Int, 0 ≤ p → p < i → nm (g p) ≠ nm (g i)) (hl : k = 0 ∨ nm (R (k - 1)) ≤ nm w) : sOut nm g n (i + 1) (upF R k w) := by
  obtain ⟨h1, h2, h3, h4⟩ := h
  have hlt : ∀ p : Int, 0 ≤ p → p < k → nm (R p) < nm w := by
    intro p a b
    obtain ⟨q, q0, q1, q2⟩ := (h4 (R p)).mp ⟨p, a, by omega, by omega, rfl⟩
    have hne := hd q q0 q1
    rw [q2, ← hw] at hne
    have hle : nm (R p) ≤ nm w := by
      rcases hl with hl | hl
      · omega
      · by_cases hp : p = k - 1
        · rw [hp]; exact hl
        · have := h1 p (k - 1) a (by omega) (by omega) (by omega) (by omega); omega
    omega
  refine ⟨fun p q a b c => ?_, fun q a b => ?_, fun v => ?_⟩
  · by_cases hq : q = k
    · rw [hq, upF_s, upF_n (by omega)]; exact hlt p a (by omega)
    · rw [upF_n hq]
      by_cases hp : p = k
      · rw [hp, upF_s]; exact h2 q (by omega) (by omega)
      · rw [upF_n hp]; exact h1 p q a b (by omega) hp hq
  · rw [upF_n (by omega)]; exact h3 q (by omega) b
  · constructor
    · rintro ⟨q, a, b, d⟩
      by_cases hq : q = k
      · rw [hq, upF_s] at d; exact ⟨i, by omega, by omega, by rw [← hw]; exact d⟩
      · rw [upF_n hq] at d
        obtain ⟨q', a', b', d'⟩ := (h4 v).mp ⟨q, a, by omega, hq, d⟩
        exact ⟨q', a', by omega, d'⟩
    · rintro ⟨q, a, b, d⟩
      by_cases hq : q = i
      · rw [hq, ← hw] at d; exact ⟨k, by omega, by omega, by rw [upF_s]; exact d⟩
      · obtain ⟨q', a', b', c', d'⟩ := (h4 v).mpr ⟨q, a, by omega, d⟩
        exact ⟨q', a', by omega, by rw [upF_n c']; exact d'⟩
/-- two rows that rise and hold the same are the same -/
theorem rise_eq {f h : Int → Int} {n : Int} (hf : ∀ p q : Int, 0 ≤ p → p < q → q < n → f p < f q) (hh : ∀ p q : Int, 0 ≤ p → p < q → q < n → h p < h q) (hs : ∀ v : Int, (∃ q : Int, 0 ≤ q ∧ q < n ∧ f q = v) ↔ (∃ q : Int, 0 ≤ q ∧ q < n ∧ h q = v)) : ∀ q : Int, 0 ≤ q → q < n → f q = h q := by
  have key : ∀ (m : Nat) (q : Int), q = m → q < n → f q = h q := by
    intro m
    induction m using Nat.strongRecOn with
    | ind m ih =>
      intro q hq hn
      have hq0 : 0 ≤ q := by omega
      rcases Int.lt_trichotomy (f q) (h q) with c | c | c
      · exfalso
        obtain ⟨j, j0, j1, j2⟩ := (hs (f q)).mp ⟨q, hq0, hn, rfl⟩
        have hjq : j < q := by
          rcases Int.lt_trichotomy j q with r | r | r
          · exact r
          · subst r; omega
          · have := hh q j hq0 r j1; omega
        have e := ih j.toNat (by omega) j (by omega) j1
        have := hf j q j0 hjq hn
        omega
      · exact c
      · exfalso
        obtain ⟨j, j0, j1, j2⟩ := (hs (h q)).mpr ⟨q, hq0, hn, rfl⟩
        have hjq : j < q := by
          rcases Int.lt_trichotomy j q with r | r | r
          · exact r
          · subst r; omega
          · have := hf q j hq0 r j1; omega
        have e := ih j.toNat (by omega) j (by omega) j1
        have := hh j q j0 hjq hn
        omega
  intro q q0 q1
  exact key q.toNat q (by omega) q1
/-! ===== frames of the table of sets ===== -/
theorem PkC_f {I M : Mm} {N : Int} (h : PkC I N) (hM : ∀ a q : Int, a ≠ 24 → M a q = I a q) : PkC M N := by
  unfold PkC
  rw [hM 22 1 (by decide)]
  refine ⟨h.1, fun i i0 i1 => ?_⟩
  rw [hM 23 i (by decide)]
  exact h.2 i i0 i1
theorem PkW_f {I M : Mm} {N : Int} (hP : PkC I N) (h : PkW I) (hM : ∀ a q : Int, a ≠ 24 → M a q = I a q) : PkW M := by
  intro i i0 i1
  rw [hM 22 1 (by decide)] at i1
  have := hP.2 i i0 i1
  rw [hM 23 i (by decide), hM _ 3 (by omega), hM _ 4 (by omega), hM _ 5 (by omega), hM _ 6 (by omega)]
  exact h i i0 i1
theorem lnF_f {I M : Mm} {N : Int} (hP : PkC I N) (hM : ∀ a q : Int, a ≠ 24 → M a q = I a q) (r : Int) {n : Nat} (hn : (n : Int) ≤ I 22 1) : lnF M r n = lnF I r n := by
  unfold lnF
  refine fld_cong fun s i i0 i1 => ?_
  have := hP.2 i i0 (by omega)
  rw [hM 23 i (by decide), hM _ 4 (by omega)]
theorem ltF_f {I M : Mm} {N : Int} (hP : PkC I N) (hM : ∀ a q : Int, a ≠ 24 → M a q = I a q) (s : Int) {i : Int} (i0 : 0 ≤ i) (i1 : i < I 22 1) : ltF M s i = ltF I s i := by
  have := hP.2 i i0 i1
  unfold ltF
  rw [hM 23 i (by decide), hM _ 4 (by omega), hM _ 6 (by omega)]
theorem fstA_r (p : Int → Prop) : ∀ n : Nat, fstA p n = -1 ∨ (0 ≤ fstA p n ∧ fstA p n < n ∧ p (fstA p n))
  | 0 => Or.inl rfl
  | n + 1 => by
    have h := fstA_r p n
    have e : fstA p (n + 1) = cif (fstA p n = -1 ∧ p n) (n : Int) (fstA p n) := rfl
    by_cases hc : fstA p n = -1 ∧ p n
    · rw [e, cif_t hc]
      exact Or.inr ⟨by omega, by omega, hc.2⟩
    · rw [e, cif_f hc]
      rcases h with h | ⟨h1, h2, h3⟩
      · exact Or.inl h
      · exact Or.inr ⟨h1, by omega, h3⟩
theorem bbF_r (I : Mm) (E : Int → Int) (t q : Int) (hn : 0 ≤ I 22 1) : bbF I E t q = -1 ∨ (0 ≤ bbF I E t q ∧ bbF I E t q < I 22 1 ∧ ¬ bitP q (bbF I E t q)) := by
  rcases fstA_r (fun i => ¬ bitP q i ∧ ltF I (t + lnF I q (I 22 1).toNat) i + E (q + 2 ^ i.toNat) = E q) (I 22 1).toNat with h | ⟨h1, h2, h3⟩
  · exact Or.inl h
  · exact Or.inr ⟨h1, by unfold bbF; omega, h3.1⟩
theorem bit_all {n i : Int} (hn : 0 ≤ n ∧ n ≤ 6) (hi : 0 ≤ i ∧ i < n) : bitP (2 ^ n.toNat - 1) i := by
  have hn7 : n = 0 ∨ n = 1 ∨ n = 2 ∨ n = 3 ∨ n = 4 ∨ n = 5 ∨ n = 6 := by omega
  have hi6 : i = 0 ∨ i = 1 ∨ i = 2 ∨ i = 3 ∨ i = 4 ∨ i = 5 := by omega
  unfold bitP
  rcases hn7 with rfl | rfl | rfl | rfl | rfl | rfl | rfl <;> rcases hi6 with rfl | rfl | rfl | rfl | rfl | rfl <;> first | decide | (exfalso; omega)
