/-! ===== words picked: bits, which rule, the best order ===== -/
theorem oI_and1 (a : Int) : Int32.ofInt a &&& Int32.ofInt 1 = Int32.ofInt (a % 2) := by
  apply Int32.toBitVec_inj.mp
  apply BitVec.eq_of_toNat_eq
  rw [Int32.toBitVec_and, BitVec.toNat_and]
  have h1 : (Int32.ofInt 1).toBitVec.toNat = 2 ^ 1 - 1 := by decide
  rw [h1, Nat.and_two_pow_sub_one_eq_mod]
  show (BitVec.ofInt 32 a).toNat % 2 ^ 1 = (BitVec.ofInt 32 (a % 2)).toNat
  rw [BitVec.toNat_ofInt, BitVec.toNat_ofInt]
  omega
theorem b6_shr {r i : Int} (hr : 0 ≤ r ∧ r < 64) (hi : 0 ≤ i ∧ i ≤ 5) : Int32.ofInt r >>> (Int32.ofInt i &&& 31) = Int32.ofInt (r / 2 ^ i.toNat) := by
  have key : ∀ i' : Nat, i' < 6 → ∀ r' : Nat, r' < 64 → Int32.ofInt (r' : Int) >>> (Int32.ofInt (i' : Int) &&& 31) = Int32.ofInt ((r' / 2 ^ i' : Nat) : Int) := by decide +kernel
  have := key i.toNat (by omega) r.toNat (by omega)
  rw [Int.toNat_of_nonneg hr.1, Int.toNat_of_nonneg hi.1] at this
  rw [this]
  congr 1
  have h0 : r = ((r.toNat : Nat) : Int) := by omega
  rw [h0]
  norm_cast
theorem b6_shl {i : Int} (hi : 0 ≤ i ∧ i ≤ 6) : Int32.ofInt 1 <<< (Int32.ofInt i &&& 31) = Int32.ofInt (2 ^ i.toNat) := by
  have : i = 0 ∨ i = 1 ∨ i = 2 ∨ i = 3 ∨ i = 4 ∨ i = 5 ∨ i = 6 := by omega
  rcases this with rfl | rfl | rfl | rfl | rfl | rfl | rfl <;> decide
theorem pw_b {i : Int} (hi : 0 ≤ i ∧ i ≤ 6) : (1 : Int) ≤ 2 ^ i.toNat ∧ (2 : Int) ^ i.toNat ≤ 64 := by
  have : i = 0 ∨ i = 1 ∨ i = 2 ∨ i = 3 ∨ i = 4 ∨ i = 5 ∨ i = 6 := by omega
  rcases this with rfl | rfl | rfl | rfl | rfl | rfl | rfl <;> decide
/-- a bit that is not there comes -/
theorem b6_add {n r i : Int} (hn : 0 ≤ n ∧ n ≤ 6) (hr : 0 ≤ r ∧ r < 2 ^ n.toNat) (hi : 0 ≤ i ∧ i < n) (hb : ¬ bitP r i) : Int32.ofInt r ||| Int32.ofInt (2 ^ i.toNat) = Int32.ofInt (r + 2 ^ i.toNat) ∧ r + 2 ^ i.toNat < 2 ^ n.toNat ∧ ∀ g : Int, 0 ≤ g → g ≤ 5 → (bitP (r + 2 ^ i.toNat) g ↔ bitP r g ∨ g = i) := by
  have key1 : ∀ n' : Nat, n' < 7 → ∀ r' : Nat, r' < 2 ^ n' → ∀ i' : Nat, i' < n' → (r' / 2 ^ i' % 2 = 1) ∨ r' + 2 ^ i' < 2 ^ n' := by decide +kernel
  have key2 : ∀ r' : Nat, r' < 64 → ∀ i' : Nat, i' < 6 → (r' / 2 ^ i' % 2 = 1) ∨ Int32.ofInt (r' : Int) ||| Int32.ofInt ((2 ^ i' : Nat) : Int) = Int32.ofInt ((r' + 2 ^ i' : Nat) : Int) := by decide +kernel
  have key3 : ∀ r' : Nat, r' < 64 → ∀ i' : Nat, i' < 6 → (r' / 2 ^ i' % 2 = 1) ∨ ∀ g : Nat, g < 6 → (((r' + 2 ^ i') / 2 ^ g % 2 = 1) ↔ (r' / 2 ^ g % 2 = 1) ∨ g = i') := by decide +kernel
  obtain ⟨r', rfl⟩ : ∃ m : Nat, r = (m : Int) := ⟨r.toNat, by omega⟩
  obtain ⟨i', rfl⟩ : ∃ m : Nat, i = (m : Int) := ⟨i.toNat, by omega⟩
  obtain ⟨n', rfl⟩ : ∃ m : Nat, n = (m : Int) := ⟨n.toNat, by omega⟩
  simp only [Int.toNat_natCast] at hr hb ⊢
  have hr2 : r' < 2 ^ n' := by have := hr.2; exact_mod_cast this
  have hb2 : ¬ (r' / 2 ^ i' % 2 = 1) := by
    intro h
    apply hb
    unfold bitP
    simp only [Int.toNat_natCast]
    exact_mod_cast h
  have h64 : r' < 64 := Nat.lt_of_lt_of_le hr2 (Nat.pow_le_pow_right (n := 2) (by decide) (show n' ≤ 6 by omega))
  have k2 := (key1 n' (by omega) r' hr2 i' (by omega)).resolve_left hb2
  have k1 := (key2 r' h64 i' (by omega)).resolve_left hb2
  have k3 := (key3 r' h64 i' (by omega)).resolve_left hb2
  refine ⟨?_, ?_, fun g g0 g1 => ?_⟩
  · push_cast at k1; exact k1
  · exact_mod_cast k2
  · obtain ⟨g', rfl⟩ : ∃ m : Nat, g = (m : Int) := ⟨g.toNat, by omega⟩
    have := k3 g' (by omega)
    unfold bitP
    simp only [Int.toNat_natCast]
    rw [show ((g' : Int) = (i' : Int)) ↔ g' = i' by omega]
    constructor
    · intro h
      rcases this.mp (by exact_mod_cast h) with q | q
      · exact Or.inl (by exact_mod_cast q)
      · exact Or.inr q
    · rintro (h | h)
      · have := this.mpr (Or.inl (by exact_mod_cast h))
        exact_mod_cast this
      · have := this.mpr (Or.inr h)
        exact_mod_cast this
/-- a set that is not all wants one -/
theorem b6_some {n r : Int} (hn : 0 ≤ n ∧ n ≤ 6) (hr : 0 ≤ r ∧ r < 2 ^ n.toNat - 1) : ∃ i : Int, 0 ≤ i ∧ i < n ∧ ¬ bitP r i := by
  have key : ∀ n' : Nat, n' < 7 → ∀ r' : Nat, r' < 2 ^ n' - 1 → ∃ i' : Fin 6, i'.val < n' ∧ ¬ (r' / 2 ^ i'.val % 2 = 1) := by decide +kernel
  obtain ⟨r', rfl⟩ : ∃ m : Nat, r = (m : Int) := ⟨r.toNat, by omega⟩
  obtain ⟨n', rfl⟩ : ∃ m : Nat, n = (m : Int) := ⟨n.toNat, by omega⟩
  simp only [Int.toNat_natCast] at hr
  have h2 : (((2 ^ n' : Nat) : Int)) = 2 ^ n' := by norm_cast
  have hr2 : r' < 2 ^ n' - 1 := by omega
  obtain ⟨i', k1, k2⟩ := key n' (by omega) r' hr2
  refine ⟨(i'.val : Int), by omega, by omega, fun h => k2 ?_⟩
  unfold bitP at h
  simp only [Int.toNat_natCast] at h
  exact_mod_cast h
/-- the picked words -/
def PkC (I : Mm) (N : Int) : Prop := (0 ≤ I 22 1 ∧ I 22 1 ≤ 8) ∧ ∀ i : Int, 0 ≤ i → i < I 22 1 → 67 ≤ I 23 i ∧ I 23 i < N
/-- their numbers -/
def PkW (I : Mm) : Prop := ∀ i : Int, 0 ≤ i → i < I 22 1 → (0 ≤ I (I 23 i) 3 ∧ I (I 23 i) 3 ≤ 9) ∧ (0 ≤ I (I 23 i) 4 ∧ I (I 23 i) 4 ≤ 99) ∧ (0 ≤ I (I 23 i) 5 ∧ I (I 23 i) 5 ≤ 150000) ∧ (0 ≤ I (I 23 i) 6 ∧ I (I 23 i) 6 ≤ 150000)
noncomputable def vlF (I : Mm) (a t : Int) : Int := cif (t < 0) 0 ((t % 4 + 1) * trt I a (t / 4))
noncomputable def vsF (I : Mm) (t s k : Int) : Int := vlF I (I 23 k) t + vlF I (I 23 k) s
def fitP (I : Mm) (t s k : Int) : Prop := ¬ (vsF I t s k < vsF I t s (k - 1) ∨ (vsF I t s (k - 1) = vsF I t s k ∧ I (I 23 k) 0 < I (I 23 (k - 1)) 0))
def fitA (I : Mm) (t s : Int) : Prop := ∀ k : Int, 1 ≤ k → k < I 22 1 → fitP I t s k
theorem trt_b {I : Mm} (h : PkW I) {i k : Int} (hi : 0 ≤ i ∧ i < I 22 1) (hk : 0 ≤ k ∧ k ≤ 3) : 0 ≤ trt I (I 23 i) k ∧ trt I (I 23 i) k ≤ 150000 := by
  have := h i hi.1 hi.2
  unfold trt
  have h4 : k = 0 ∨ k = 1 ∨ k = 2 ∨ k = 3 := by omega
  rcases h4 with rfl | rfl | rfl | rfl
  · rw [cif_t rfl]; omega
  · rw [cif_f (by decide), cif_t rfl]; omega
  · rw [cif_f (by decide), cif_f (by decide), cif_t rfl]; omega
  · rw [cif_f (by decide), cif_f (by decide), cif_f (by decide), cif_t rfl]; omega
theorem vlF_b {I : Mm} (h : PkW I) {i t : Int} (hi : 0 ≤ i ∧ i < I 22 1) (ht : -1 ≤ t ∧ t ≤ 15) : 0 ≤ vlF I (I 23 i) t ∧ vlF I (I 23 i) t ≤ 600000 := by
  unfold vlF
  by_cases c : t < 0
  · rw [cif_t c]; omega
  · rw [cif_f c]
    have h1 := trt_b h (k := t / 4) hi (by omega)
    have h2 := mulb (a := t % 4 + 1) (b := trt I (I 23 i) (t / 4)) (A := 4) (B := 150000) (by omega) (by omega)
    have h3 : 0 ≤ (t % 4 + 1) * trt I (I 23 i) (t / 4) := Int.mul_nonneg (by omega) h1.1
    omega
noncomputable def frF (I : Mm) : Int := cif (fstA (fun a => fitA I a (-1)) 16 ≠ -1) (tm (fstA (fun a => fitA I a (-1)) 16)) (cif (fstA (fun a => fitA I (a / 16) (a % 16)) 256 ≠ -1) (100 * tm (fstA (fun a => fitA I (a / 16) (a % 16)) 256 / 16) + tm (fstA (fun a => fitA I (a / 16) (a % 16)) 256 % 16)) (-4))
/-- the lengths of those gone; by how much one is late that is sent from s on -/
noncomputable def lnF (I : Mm) (r : Int) (n : Nat) : Int := fld (fun s i => s + cif (bitP r i) (I (I 23 i) 4) 0) 0 n
def ltF (I : Mm) (s i : Int) : Int := max 0 (s + I (I 23 i) 4 - I (I 23 i) 6)
theorem lnF_b {I : Mm} (h : PkW I) (r : Int) : ∀ n : Nat, (n : Int) ≤ I 22 1 → 0 ≤ lnF I r n ∧ lnF I r n ≤ 99 * n
  | 0, _ => by simp [lnF, fld]
  | n + 1, hn => by
    have h1 := lnF_b h r n (by omega)
    have h2 := h n (by omega) (by omega)
    have e : lnF I r (n + 1) = lnF I r n + cif (bitP r n) (I (I 23 n) 4) 0 := rfl
    rw [e]
    by_cases c : bitP r n
    · rw [cif_t c]; omega
    · rw [cif_f c]; omega
/-- the least of those that have p not -/
noncomputable def mnP (p : Int → Prop) (f : Int → Int) (m : Int) (n : Nat) : Int := fld (fun s i => cif (p i) s (min s (f i))) m n
theorem mnP_s (p : Int → Prop) (f : Int → Int) (m : Int) {i : Int} (h : 0 ≤ i) : mnP p f m (i + 1).toNat = cif (p i) (mnP p f m i.toNat) (min (mnP p f m i.toNat) (f i)) := fld_s _ _ h
theorem mnP_le {p : Int → Prop} {f : Int → Int} {m : Int} : ∀ {n : Nat}, mnP p f m n ≤ m ∧ ∀ i : Int, 0 ≤ i → i < n → ¬ p i → mnP p f m n ≤ f i
  | 0 => ⟨Int.le_refl _, fun i h0 h1 => by omega⟩
  | n + 1 => by
    obtain ⟨h1, h2⟩ := mnP_le (p := p) (f := f) (m := m) (n := n)
    have e : mnP p f m (n + 1) = cif (p n) (mnP p f m n) (min (mnP p f m n) (f n)) := rfl
    rw [e]
    by_cases c : p n
    · rw [cif_t c]
      refine ⟨h1, fun i i0 i1 hi => ?_⟩
      by_cases q : i = n
      · subst q; exact absurd c hi
      · exact h2 i i0 (by omega) hi
    · rw [cif_f c]
      refine ⟨by omega, fun i i0 i1 hi => ?_⟩
      by_cases q : i = n
      · subst q; omega
      · have := h2 i i0 (by omega) hi; omega
theorem mnP_ge {p : Int → Prop} {f : Int → Int} {m L : Int} (hm : L ≤ m) : ∀ {n : Nat}, (∀ i : Int, 0 ≤ i → i < n → ¬ p i → L ≤ f i) → L ≤ mnP p f m n
  | 0, _ => hm
  | n + 1, h => by
    have h1 := mnP_ge hm (n := n) (fun i i0 i1 => h i i0 (by omega))
    have e : mnP p f m (n + 1) = cif (p n) (mnP p f m n) (min (mnP p f m n) (f n)) := rfl
    rw [e]
    by_cases c : p n
    · rw [cif_t c]; exact h1
    · rw [cif_f c]
      have := h n (by omega) (by omega) c
      omega
theorem mnP_or {p : Int → Prop} {f : Int → Int} {m : Int} : ∀ {n : Nat}, mnP p f m n = m ∨ ∃ i : Int, 0 ≤ i ∧ i < n ∧ ¬ p i ∧ mnP p f m n = f i
  | 0 => Or.inl rfl
  | n + 1 => by
    have e : mnP p f m (n + 1) = cif (p n) (mnP p f m n) (min (mnP p f m n) (f n)) := rfl
    rw [e]
    have ih := mnP_or (p := p) (f := f) (m := m) (n := n)
    by_cases c : p n
    · rw [cif_t c]
      rcases ih with h | ⟨i, i0, i1, i2, i3⟩
      · exact Or.inl h
      · exact Or.inr ⟨i, i0, by omega, i2, i3⟩
    · rw [cif_f c]
      by_cases q : f n < mnP p f m n
      · exact Or.inr ⟨n, by omega, by omega, c, by omega⟩
      · rw [show min (mnP p f m n) (f n) = mnP p f m n by omega]
        rcases ih with h | ⟨i, i0, i1, i2, i3⟩
        · exact Or.inl h
        · exact Or.inr ⟨i, i0, by omega, i2, i3⟩
theorem mnP_c {p : Int → Prop} {f g : Int → Int} {m : Int} : ∀ {n : Nat}, (∀ i : Int, 0 ≤ i → i < n → ¬ p i → f i = g i) → mnP p f m n = mnP p g m n
  | 0, _ => rfl
  | n + 1, h => by
    have e : ∀ f : Int → Int, mnP p f m (n + 1) = cif (p n) (mnP p f m n) (min (mnP p f m n) (f n)) := fun _ => rfl
    rw [e, e, mnP_c (n := n) (fun i i0 i1 => h i i0 (by omega))]
    by_cases c : p n
    · rw [cif_t c, cif_t c]
    · rw [cif_f c, cif_f c, h n (by omega) (by omega) c]
/-- one step of the table of sets: E the table, t the moment -/
noncomputable def llS (I : Mm) (E : Int → Int) (t q : Int) (n : Nat) : Int := mnP (bitP q) (fun i => ltF I (t + lnF I q (I 22 1).toNat) i + E (q + 2 ^ i.toNat)) 1000000000 n
/-- the table as it must be -/
def LLp (I : Mm) (E : Int → Int) (t : Int) : Prop := E (2 ^ (I 22 1).toNat - 1) = 0 ∧ (∀ q : Int, 0 ≤ q → q < 2 ^ (I 22 1).toNat - 1 → E q = llS I E t q (I 22 1).toNat) ∧ ∀ q : Int, 0 ≤ q → q ≤ 2 ^ (I 22 1).toNat - 1 → 0 ≤ E q ∧ E q ≤ 300000 * (2 ^ (I 22 1).toNat - 1 - q)
/-- the first one that is still best -/
noncomputable def bbF (I : Mm) (E : Int → Int) (t q : Int) : Int := fstA (fun i => ¬ bitP q i ∧ ltF I (t + lnF I q (I 22 1).toNat) i + E (q + 2 ^ i.toNat) = E q) (I 22 1).toNat
/-- who is gone after k turns -/
noncomputable def gnF (I : Mm) (E : Int → Int) (t : Int) : Nat → Int
  | 0 => 0
  | k + 1 => gnF I E t k + 2 ^ (bbF I E t (gnF I E t k)).toNat
theorem cat_I (a : Int) : (vI a).category = 1 := rfl
theorem cat_L (a : Int) : (vL a).category = 2 := rfl
