/-! ===== the table of sets: somebody is always best; who is gone ===== -/
theorem LLp_bb {J : Mm} {E : Int → Int} {t : Int} (hn : 0 ≤ J 22 1 ∧ J 22 1 ≤ 6) (h : LLp J E t) {r : Int} (r0 : 0 ≤ r) (r1 : r < 2 ^ (J 22 1).toNat - 1) : 0 ≤ bbF J E t r := by
  obtain ⟨-, h2, h3⟩ := h
  have hp := pw_b (i := J 22 1) hn
  have e := h2 r r0 r1
  have hb := h3 r r0 (by omega)
  unfold llS at e
  rcases mnP_or (p := bitP r) (f := fun i => ltF J (t + lnF J r (J 22 1).toNat) i + E (r + 2 ^ i.toNat)) (m := 1000000000) (n := (J 22 1).toNat) with q | ⟨i, i0, i1, i2, i3⟩
  · rw [q] at e; omega
  · rw [← e] at i3
    rcases bbF_r J E t r hn.1 with c | c
    · exfalso
      rcases fstA_r (fun i => ¬ bitP r i ∧ ltF J (t + lnF J r (J 22 1).toNat) i + E (r + 2 ^ i.toNat) = E r) (J 22 1).toNat with d | d
      · have key : ∀ (p : Int → Prop) (n : Nat), fstA p n = -1 → ∀ j : Int, 0 ≤ j → j < n → ¬ p j := by
          intro p n
          induction n with
          | zero => intro _ j a b; omega
          | succ n ih =>
            intro hh j a b hj
            have e2 : fstA p (n + 1) = cif (fstA p n = -1 ∧ p n) (n : Int) (fstA p n) := rfl
            rw [e2] at hh
            by_cases c2 : fstA p n = -1 ∧ p n
            · rw [cif_t c2] at hh; omega
            · rw [cif_f c2] at hh
              by_cases c3 : j = n
              · subst c3; exact c2 ⟨hh, hj⟩
              · exact ih hh j a (by omega) hj
        exact key _ _ d i i0 i1 ⟨i2, i3.symm⟩
      · have : bbF J E t r = fstA (fun i => ¬ bitP r i ∧ ltF J (t + lnF J r (J 22 1).toNat) i + E (r + 2 ^ i.toNat) = E r) (J 22 1).toNat := rfl
        omega
    · exact c.1
theorem pc_add {n r i : Int} (hn : 0 ≤ n ∧ n ≤ 6) (hr : 0 ≤ r ∧ r < 2 ^ n.toNat) (hi : 0 ≤ i ∧ i < n) (hb : ¬ bitP r i) : cntW (bitP (r + 2 ^ i.toNat)) n.toNat = cntW (bitP r) n.toNat + 1 := by
  have h := (b6_add hn hr hi hb).2.2
  have hd := cntW_del (p := bitP (r + 2 ^ i.toNat)) (q := bitP r) (v := i) ((h i hi.1 (by omega)).mpr (Or.inr rfl)) hi.1 (n := n.toNat) (fun g g0 g1 => by
    rw [h g g0 (by omega)]
    constructor
    · intro x
      exact ⟨Or.inl x, fun e => hb (by rw [← e]; exact x)⟩
    · rintro ⟨x | x, y⟩
      · exact x
      · exact absurd x y)
  rw [cif_t (by omega)] at hd
  omega
theorem pc_lt {n r : Int} (hn : 0 ≤ n ∧ n ≤ 6) (hr : 0 ≤ r ∧ r < 2 ^ n.toNat) (hc : cntW (bitP r) n.toNat < n) : r < 2 ^ n.toNat - 1 := by
  rcases Int.lt_or_le r (2 ^ n.toNat - 1) with c | c
  · exact c
  · exfalso
    have e : r = 2 ^ n.toNat - 1 := by omega
    have key : ∀ m : Nat, (m : Int) ≤ n → cntW (bitP r) m = m := by
      intro m
      induction m with
      | zero => intro _; rfl
      | succ m ih =>
        intro hm
        have e2 : cntW (bitP r) (m + 1) = cntW (bitP r) m + cif (bitP r m) 1 0 := rfl
        rw [e2, ih (by omega), cif_t (by rw [e]; exact bit_all hn ⟨by omega, by omega⟩)]
        omega
    have := key n.toNat (by omega)
    omega
theorem gn_ok {J : Mm} {E : Int → Int} {t : Int} (hn : 0 ≤ J 22 1 ∧ J 22 1 ≤ 6) (h : LLp J E t) : ∀ k : Nat, (k : Int) < J 22 1 → 0 ≤ gnF J E t k ∧ gnF J E t k < 2 ^ (J 22 1).toNat - 1 ∧ cntW (bitP (gnF J E t k)) (J 22 1).toNat = k
  | 0, hk => by
    have hp := pw_b (i := J 22 1) hn
    have e0 : cntW (bitP 0) (J 22 1).toNat = 0 := cntW_0 (fun w _ _ => bit_0 w)
    refine ⟨Int.le_refl _, ?_, e0⟩
    exact pc_lt (r := 0) hn ⟨by omega, by omega⟩ (by rw [e0]; omega)
  | k + 1, hk => by
    obtain ⟨a, b, c⟩ := gn_ok hn h k (by omega)
    have hb := LLp_bb hn h a b
    rcases bbF_r J E t (gnF J E t k) hn.1 with d | ⟨d1, d2, d3⟩
    · omega
    · have ha := b6_add (n := J 22 1) (r := gnF J E t k) (i := bbF J E t (gnF J E t k)) hn ⟨a, by omega⟩ ⟨d1, d2⟩ d3
      have hc := pc_add (n := J 22 1) (r := gnF J E t k) (i := bbF J E t (gnF J E t k)) hn ⟨a, by omega⟩ ⟨d1, d2⟩ d3
      have hp := pw_b (i := bbF J E t (gnF J E t k)) (by omega)
      have e : gnF J E t (k + 1) = gnF J E t k + 2 ^ (bbF J E t (gnF J E t k)).toNat := rfl
      rw [← e] at ha hc
      have hc2 : cntW (bitP (gnF J E t (k + 1))) (J 22 1).toNat = ((k + 1 : Nat) : Int) := by omega
      exact ⟨by omega, pc_lt (r := gnF J E t (k + 1)) hn ⟨by omega, ha.2.1⟩ (by omega), hc2⟩
/-! answers of the calls that take a row of a sheet -/
def okA (s lane n : Int) : Prop := (0 ≤ s ∧ s ≤ 3) ∧ (0 ≤ lane ∧ lane ≤ 2) ∧ (1 ≤ n ∧ n ≤ 24)
theorem tk_v (I : Mm) (s lane i n : Int) : (¬ okA s lane n ∧ tkF I s lane i n = -1) ∨ (okA s lane n ∧ rkF I s lane i n = 1 ∧ tkF I s lane i n = 0) ∨ (okA s lane n ∧ rkF I s lane i n ≠ 1 ∧ tkF I s lane i n = rkF I s lane i n ∧ -13 ≤ tkF I s lane i n ∧ tkF I s lane i n < 0) := by
  have hv := wsF_v I s lane i n
  unfold tkF rkF okA
  by_cases c : 1 ≤ n ∧ n ≤ 24
  · rw [cif_t c]
    rcases hv with ⟨a, b⟩ | ⟨a, b, d⟩ | ⟨a, b, d, e, f⟩
    · rw [cif_f (by omega)]; exact Or.inl ⟨by omega, a⟩
    · rw [cif_t d, cif_t b]
      by_cases k : okRk I s i n
      · rw [cif_t k, cif_t k]; exact Or.inr (Or.inl ⟨⟨a.1, a.2, c⟩, rfl, rfl⟩)
      · rw [cif_f k, cif_f k]; exact Or.inr (Or.inr ⟨⟨a.1, a.2, c⟩, by omega, rfl, by omega, by omega⟩)
    · rw [cif_f (by omega), cif_f b]; exact Or.inr (Or.inr ⟨⟨a.1, a.2, c⟩, b, d, by omega, by omega⟩)
  · rw [cif_f c]; exact Or.inl ⟨by omega, rfl⟩
theorem pk_v (I : Mm) (s lane i n mw : Int) : (¬ ((0 ≤ s ∧ s ≤ 3) ∧ (0 ≤ lane ∧ lane ≤ 2)) ∧ pkF I s lane i n mw = -1) ∨ (((0 ≤ s ∧ s ≤ 3) ∧ (0 ≤ lane ∧ lane ≤ 2)) ∧ wrF I s lane i n = 1 ∧ okPk I s i n mw ∧ pkF I s lane i n mw = 0) ∨ (((0 ≤ s ∧ s ≤ 3) ∧ (0 ≤ lane ∧ lane ≤ 2)) ∧ wrF I s lane i n = 1 ∧ ¬ okPk I s i n mw ∧ pkF I s lane i n mw = -2) ∨ (((0 ≤ s ∧ s ≤ 3) ∧ (0 ≤ lane ∧ lane ≤ 2)) ∧ wrF I s lane i n ≠ 1 ∧ pkF I s lane i n mw = wrF I s lane i n ∧ -13 ≤ pkF I s lane i n mw ∧ pkF I s lane i n mw < 0) := by
  have hv := wsF_v I s lane i n
  unfold pkF
  rcases hv with ⟨a, b⟩ | ⟨a, b, d⟩ | ⟨a, b, d, e, f⟩
  · rw [cif_f (by omega)]; exact Or.inl ⟨by omega, a⟩
  · rw [cif_t d]
    by_cases k : okPk I s i n mw
    · rw [cif_t k]; exact Or.inr (Or.inl ⟨a, b, k, rfl⟩)
    · rw [cif_f k]; exact Or.inr (Or.inr (Or.inl ⟨a, b, k, rfl⟩))
  · rw [cif_f (by omega)]; exact Or.inr (Or.inr (Or.inr ⟨a, b, d, by omega, by omega⟩))
theorem okPk_0 {I : Mm} {s i n : Int} : okPk I s i n 0 ↔ okWs I s i n ∧ ¬ dup (itm I s i) n := by
  unfold okPk okWs
  constructor
  · rintro ⟨a, b⟩
    exact ⟨fun k k0 k1 => by have := (a k k0 k1).1; unfold itm at this; omega, b⟩
  · rintro ⟨a, b⟩
    exact ⟨fun k k0 k1 => ⟨by have := a k k0 k1; unfold itm; omega, fun h => absurd rfl h⟩, b⟩
/-- what order answers, in the class's words: g the picked words in order, E the table -/
def ordC (I : Mm) (s i n k r : Int) : Prop := ∃ (J : Mm) (g : Int → Int), J 22 1 = n ∧ (∀ p q : Int, 0 ≤ p → p < q → q < n → g p < g q) ∧ (∀ v : Int, (∃ q : Int, 0 ≤ q ∧ q < n ∧ g q = v) ↔ (∃ q : Int, 0 ≤ q ∧ q < n ∧ itm I s i q = v)) ∧ (∀ q : Int, 0 ≤ q → q < n → J 23 q = 67 + g q) ∧ (∀ a q : Int, 67 ≤ a → J a q = I a q) ∧ LLp J (J 24) (I 49 7) ∧ (k = -1 → r = J 24 0) ∧ (0 ≤ k → r = g (bbF J (J 24) (I 49 7) (gnF J (J 24) (I 49 7) k.toNat)))
