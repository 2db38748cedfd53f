/-! ===== the invariant holds at the start ===== -/
def f0I : Int → Int := fun q => if q = 3 then 0 else -1
def f49I : Int → Int := fun q => if (6 ≤ q ∧ q ≤ 9) ∨ (11 ≤ q ∧ q ≤ 13) ∨ q = 20 ∨ q = 21 then 0 else -1
def I00 : Mm := fun _ _ => 0
def Ist : Mm := mIni (upR (tIni (upR I00 0 f0I)) 49 f49I)
/-- every place holds a small number -/
def Bd (I : Mm) : Prop := ∀ a k : Int, -600 ≤ I a k ∧ I a k ≤ 600
theorem Bd_up {I : Mm} {a k v : Int} (h : Bd I) (hv : -600 ≤ v ∧ v ≤ 600) : Bd (up I a k v) := by
  intro b q
  unfold up
  split
  · exact hv
  · exact h b q
theorem Bd_upR {I : Mm} {a : Int} {f : Int → Int} (h : Bd I) (hf : ∀ q : Int, -600 ≤ f q ∧ f q ≤ 600) : Bd (upR I a f) := by
  intro b q
  unfold upR
  split
  · exact hf q
  · exact h b q
theorem Bd_fld {g : Mm → Int → Mm} {I : Mm} (h : Bd I) : ∀ {n : Nat}, (∀ (M : Mm) (i : Int), 0 ≤ i → i < n → Bd M → Bd (g M i)) → Bd (fld g I n)
  | 0, _ => h
  | n + 1, hg => hg _ _ (by omega) (by omega) (Bd_fld h (n := n) (fun M i a b => hg M i a (by omega)))
theorem Bd_c (v : Int) (h : -600 ≤ v ∧ v ≤ 600) : ∀ q : Int, -600 ≤ (fun _ : Int => v) q ∧ (fun _ : Int => v) q ≤ 600 := fun _ => h
theorem Bd_stS {M : Mm} {i : Int} (h0 : 0 ≤ i) (h1 : i < 8) (h : Bd M) : Bd (stS M i) := by
  unfold stS
  refine Bd_up (Bd_up (Bd_up (Bd_up (Bd_up (Bd_up (Bd_up (Bd_up (Bd_up (Bd_up (Bd_upR (Bd_upR h ?_) ?_) ?_) ?_) ?_) ?_) ?_) ?_) ?_) ?_) ?_) ?_
  · intro q; split <;> omega
  · exact Bd_c _ (by omega)
  all_goals omega
theorem Bd_shS {M : Mm} {i : Int} (h0 : 0 ≤ i) (h1 : i < 4) (h : Bd M) : Bd (shS M i) := by
  unfold shS
  refine Bd_up (Bd_up (Bd_up (Bd_upR (Bd_upR h ?_) ?_) ?_) ?_) ?_
  · intro q; split <;> omega
  · exact Bd_c _ (by omega)
  all_goals omega
theorem Bd_t28 {I : Mm} (h : Bd I) : Bd (tM28 I) := by
  unfold tM28 tM27 tM26 tM25 tM24 tM23 tM22 tM21 tM20 tM19 tM18 tM17 tM16 tM15 tM14 tM13 tM12 tM11 tM10 tM9 tM8 tM7 tM6 tM5 tM4 tM3 tM2 tM1
  repeat (first | assumption | (refine Bd_up ?_ (by omega)) | (refine Bd_upR ?_ (fun q => by (first | omega | (dsimp only; split <;> omega)))))
theorem Bd_n34 {I : Mm} (h : Bd I) : Bd (tN34 I) := by
  unfold tN34 tN33 tN32 tN31 tN30 tN29 tN28 tN27 tN26 tN25 tN24 tN23 tN22 tN21 tN20 tN19 tN18 tN17 tN16 tN15 tN14 tN13 tN12 tN11 tN10 tN9 tN8 tN7 tN6 tN5 tN4 tN3 tN2 tN1
  repeat (first | assumption | (refine Bd_up ?_ (by omega)) | (refine Bd_upR ?_ (fun q => by (first | omega | (dsimp only; split <;> omega)))))
theorem Bd_st : Bd Ist := by
  unfold Ist mIni tIni
  refine Bd_fld ?_ (fun M i h0 h1 h => Bd_up h (by omega))
  refine Bd_up (Bd_up (Bd_up (Bd_up (Bd_fld (Bd_n34 (Bd_upR (Bd_fld (Bd_fld (Bd_t28 (Bd_upR (fun _ _ => by unfold I00; omega) ?_)) (fun M i h0 h1 h => Bd_stS h0 (by omega) h)) (fun M i h0 h1 h => Bd_shS h0 (by omega) h)) ?_)) ?_) (by omega)) (by omega)) (by omega)) (by omega)
  · intro q; unfold f0I; split <;> omega
  · intro q; unfold f49I; split <;> omega
  · intro M i h0 h1 h
    exact Bd_up (Bd_up h (by omega)) (by omega)
theorem fx_ist : ∀ a : Nat, a < 50 → ∀ p ∈ fxL.getD a [], Ist a p.1 = p.2 := by decide +kernel
theorem Fx_st : Fx Ist := by
  refine ⟨fun a k v h => ?_, fun a k => by have := Bd_st a k; omega, fun a k _ => Bd_st a k⟩
  unfold fx at h
  rw [Option.map_eq_some_iff] at h
  obtain ⟨p, hp, rfl⟩ := h
  have hm := List.mem_of_find?_eq_some hp
  have hk := List.find?_some hp
  have hk' : (p.1 : Int) = k := by simpa using hk
  unfold fxA at hm
  by_cases c : a < 0
  · rw [if_pos c] at hm; cases hm
  · rw [if_neg c] at hm
    by_cases c2 : a.toNat < 50
    · have := fx_ist a.toNat c2 p hm
      rw [show ((a.toNat : Nat) : Int) = a by omega, hk'] at this
      exact this
    · rw [List.getD_eq_getElem?_getD, List.getElem?_eq_none (by have : fxL.length = 50 := rfl; omega)] at hm
      cases hm
theorem st_set0 : ∀ s : Nat, s < 8 → ∀ k : Nat, k < 7 → Ist 50 (7 * (s : Int) + k) = ([0, 1, 100, 0, 0, 0, 0] : List Int).getD k 0 ∧ Ist (26 + 2 * (s : Int)) k = Ist 50 (7 * (s : Int) + k) := by decide +kernel
theorem st_set (s : Nat) (hs : s < 8) (k : Nat) (hk : k < 7) : okSet k (Ist 50 (7 * (s : Int) + k)) ∧ Ist (26 + 2 * (s : Int)) k = Ist 50 (7 * (s : Int) + k) := by
  have h := st_set0 s hs k hk
  refine ⟨?_, h.2⟩
  rw [h.1]
  have : k = 0 ∨ k = 1 ∨ k = 2 ∨ k = 3 ∨ k = 4 ∨ k = 5 ∨ k = 6 := by omega
  rcases this with rfl | rfl | rfl | rfl | rfl | rfl | rfl <;> simp [okSet]
theorem st_str : ∀ s : Nat, s < 8 → (Ist 51 s = 0 ∧ Ist 52 s = 0 ∧ Ist 53 s = 0 ∧ Ist 54 s = 0) ∧ Ist (25 + 2 * (s : Int)) 2 = 0 ∧ Ist (25 + 2 * (s : Int)) 3 = 0 ∧ Ist (25 + 2 * (s : Int)) 4 = 0 ∧ Ist (25 + 2 * (s : Int)) 5 = 0 := by decide +kernel
theorem st_she : ∀ s : Nat, s < 4 → Ist 58 s = -4 ∧ Ist (41 + 2 * (s : Int)) 1 = -1 ∧ Ist (41 + 2 * (s : Int)) 2 = 0 ∧ Ist 59 s = 0 ∧ ∀ q : Nat, q < 24 → Ist (42 + 2 * (s : Int)) q = Ist 60 (24 * (s : Int) + q) := by decide +kernel
theorem st_ru : ∀ k : Nat, k < 6 → Ist 8 k = Ist 57 k ∧ Ist 10 k = Ist 57 (6 + (k : Int)) := by decide +kernel
theorem st_49 : Ist 49 6 = 0 ∧ Ist 49 7 = 0 ∧ Ist 49 8 = 0 ∧ Ist 49 9 = -4 ∧ Ist 49 11 = 0 ∧ Ist 49 12 = 24 ∧ Ist 49 13 = 0 ∧ Ist 49 20 = 0 := by decide +kernel
theorem st_11 : Ist 11 2 = 0 ∧ Ist 11 3 = 24 ∧ Ist 11 4 = 0 ∧ Ist 11 5 = -1 ∧ Ist 11 6 = 0 ∧ Ist 11 7 = 0 ∧ Ist 11 8 = 0 ∧ Ist 11 9 = 0 ∧ Ist 0 3 = 0 ∧ Ist 4 1 = 0 ∧ Ist 13 1 = 0 ∧ Ist 15 1 = 0 := by decide +kernel
theorem Inv_st : Inv Ist 67 := by
  obtain ⟨a6, a7, a8, a9, a11, a12, a13, a20⟩ := st_49
  obtain ⟨b2, b3, b4, b5, b6, b7, b8, b9, b03, b41, b13, b15⟩ := st_11
  have c0 : ∀ p : Int → Prop, cntW p (Int.toNat 0) = 0 := fun _ => rfl
  refine ⟨by rw [a6]; rfl, Fx_st, ?_, fun s s0 s1 => ?_, fun w w0 w1 => by rw [a6] at w1; omega, fun s k s0 s1 k0 k1 => ?_, fun s s0 s1 => ?_, fun s s0 s1 => ?_, ?_, fun k k0 k1 => ?_, fun w w0 w1 => by rw [a6] at w1; omega, ?_, fun i i0 i1 => by rw [a11] at i1; omega, ?_⟩
  · unfold SN; rw [a6, a7, a8, a9, a12, a13, a20]; omega
  · obtain ⟨⟨h1, h2, h3, h4⟩, -⟩ := st_str s.toNat (by omega)
    rw [show ((s.toNat : Nat) : Int) = s by omega] at h1 h2 h3 h4
    rw [a6, h1, h2, h3, h4, c0]
    omega
  · have := (st_set s.toNat (by omega) k.toNat (by omega)).1
    rw [show ((s.toNat : Nat) : Int) = s by omega, show ((k.toNat : Nat) : Int) = k by omega] at this
    exact this
  · obtain ⟨⟨h1, h2, h3, h4⟩, g1, g2, g3, g4⟩ := st_str s.toNat (by omega)
    rw [show ((s.toNat : Nat) : Int) = s by omega] at h1 h2 h3 h4 g1 g2 g3 g4
    rw [h1, h2, h3, h4, g1, g2, g3, g4]
    refine ⟨fun k k0 k1 => ?_, rfl, rfl, rfl, rfl⟩
    have := (st_set s.toNat (by omega) k.toNat (by omega)).2
    rw [show ((s.toNat : Nat) : Int) = s by omega, show ((k.toNat : Nat) : Int) = k by omega] at this
    exact this
  · obtain ⟨h1, h2, h3, h4, h5⟩ := st_she s.toNat (by omega)
    rw [show ((s.toNat : Nat) : Int) = s by omega] at h1 h2 h3 h4
    rw [h1, h2, h3, h4]
    refine ⟨Or.inl ⟨rfl, rfl⟩, rfl, by omega, fun q q0 q1 => ?_⟩
    have := h5 q.toNat (by omega)
    rw [show ((s.toNat : Nat) : Int) = s by omega, show ((q.toNat : Nat) : Int) = q by omega] at this
    exact this
  · unfold CTp
    rw [a20, b41]
    exact ⟨rfl, fun q q0 q1 => by omega, fun q => Bd_st 6 q⟩
  · have := st_ru k.toNat (by omega)
    rw [show ((k.toNat : Nat) : Int) = k by omega] at this
    exact this
  · unfold CPo
    rw [a6, a7, a8, a9, a11, a12, a13, b2, b3, b4, b5, b6, b7, b8, b9, b03, c0, c0, c0]
    exact ⟨rfl, rfl, rfl, rfl, rfl, rfl, rfl, rfl, rfl, Or.inl ⟨rfl, rfl, fun w w0 w1 => by omega⟩⟩
  · unfold CLi
    rw [a6, b13, b15]
    refine ⟨⟨by rw [c0], fun w w0 w1 => by omega⟩, ⟨by rw [c0], fun w w0 w1 => by omega⟩, by omega, fun h => by rw [c0, c0]⟩
