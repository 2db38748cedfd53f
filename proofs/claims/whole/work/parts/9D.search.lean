/-! ===== the search over all orders, beside a table of sets ===== -/
noncomputable def lnB (I : Mm) (r : Int) (n : Nat) : Int := sm (fun i => cif (bitP r i) (lnM I i) 0) n
def ltB (I : Mm) (s i : Int) : Int := max 0 (s + lnM I i - duM I i)
noncomputable def bbM (I : Mm) (E : Int → Int) (n r : Int) : Int := fstA (fun i => ¬ bitP r i ∧ ltB I (I 49 7 + lnB I r n.toNat) i + E (r + 2 ^ i.toNat) = E r) n.toNat
noncomputable def gnM (I : Mm) (E : Int → Int) (n : Int) : Int → Nat → Int
  | r, 0 => r
  | r, j + 1 => gnM I E n r j + 2 ^ (bbM I E n (gnM I E n r j)).toNat
def TbM (I : Mm) (E : Int → Int) (n : Int) : Prop := E (2 ^ n.toNat - 1) = 0 ∧ (∀ r : Int, 0 ≤ r → r < 2 ^ n.toNat - 1 → (∀ i : Int, 0 ≤ i → i < n → ¬ bitP r i → E r ≤ ltB I (I 49 7 + lnB I r n.toNat) i + E (r + 2 ^ i.toNat)) ∧ 0 ≤ bbM I E n r) ∧ ∀ r : Int, 0 ≤ r → r ≤ 2 ^ n.toNat - 1 → 0 ≤ E r ∧ E r ≤ 20000000
theorem gnM_sh (I : Mm) (E : Int → Int) (n r : Int) : ∀ j : Nat, gnM I E n r (j + 1) = gnM I E n (r + 2 ^ (bbM I E n r).toNat) j
  | 0 => rfl
  | j + 1 => by
    rw [gnM, gnM_sh I E n r j]
    rfl
theorem sm_up {f h : Int → Int} {c v : Int} : ∀ {n : Nat}, 0 ≤ c → c < n → (∀ i : Int, 0 ≤ i → i < n → i ≠ c → h i = f i) → h c = f c + v → sm h n = sm f n + v
  | 0, h0, h1, _, _ => by omega
  | n + 1, h0, h1, h2, h3 => by
    rw [sm_n, sm_n]
    by_cases e : c = n
    · subst e
      rw [sm_c (f := h) (g := f) (fun q a b => h2 q a (by omega) (by omega)), h3]; omega
    · rw [sm_up h0 (by omega) (fun i a b d => h2 i a (by omega) d) h3, h2 n (by omega) (by omega) (fun d => e d.symm)]; omega
theorem lnB_add {I : Mm} {n r c : Int} (hn : 0 ≤ n ∧ n ≤ 6) (hr : 0 ≤ r ∧ r < 2 ^ n.toNat) (hc : 0 ≤ c ∧ c < n) (hb : ¬ bitP r c) : lnB I (r + 2 ^ c.toNat) n.toNat = lnB I r n.toNat + lnM I c := by
  have h := (b6_add hn hr hc hb).2.2
  refine sm_up hc.1 (by omega) (fun i a b d => ?_) ?_
  · exact cif_iff (by rw [h i a (by omega)]; exact ⟨fun x => x.resolve_right d, Or.inl⟩)
  · rw [cif_t ((h c hc.1 (by omega)).mpr (Or.inr rfl)), cif_f hb]; omega
theorem pc_full {n r : Int} (hn : 0 ≤ n ∧ n ≤ 6) (hr : 0 ≤ r ∧ r < 2 ^ n.toNat) (hc : cntW (bitP r) n.toNat = n) : r = 2 ^ n.toNat - 1 := by
  rcases Int.lt_or_le r (2 ^ n.toNat - 1) with c | c
  · exfalso
    obtain ⟨i, i0, i1, i2⟩ := b6_some hn ⟨hr.1, c⟩
    have h1 := cntW_add (r := fun _ => True) (p := bitP r) (q := fun g => ¬ bitP r g) (n := n.toNat) (fun w _ _ => ⟨⟨fun _ => Classical.em _, fun _ => trivial⟩, fun x => x.2 x.1⟩)
    have h2 : cntW (fun _ => True) n.toNat = n := by
      have key : ∀ m : Nat, cntW (fun _ => True) m = m := by
        intro m
        induction m with
        | zero => rfl
        | succ m ih =>
          have e : cntW (fun _ => True) (m + 1) = cntW (fun _ => True) m + cif True 1 0 := rfl
          rw [e, ih, cif_t trivial]; omega
      rw [key]; omega
    have h3 := (cntW_pos (p := fun g => ¬ bitP r g) (n := n.toNat)).mpr ⟨i, i0, by omega, i2⟩
    omega
  · omega
/-- a prefix of places: k of them, r the set of them -/
def NdC (I : Mm) (n : Int) (P : Int → Int) (k r : Int) : Prop := (0 ≤ k ∧ k ≤ n) ∧ (∀ q : Int, 0 ≤ q → q < k → 0 ≤ P q ∧ P q < n) ∧ (0 ≤ r ∧ r < 2 ^ n.toNat) ∧ (∀ i : Int, 0 ≤ i → i < n → (bitP r i ↔ ∃ q : Int, 0 ≤ q ∧ q < k ∧ P q = i)) ∧ cntW (bitP r) n.toNat = k ∧ (ptl I P k.toNat).2 = I 49 7 + lnB I r n.toNat
theorem NdC_0 (I : Mm) {n : Int} (hn : 1 ≤ n ∧ n ≤ 6) (P : Int → Int) : NdC I n P 0 0 := by
  have hp := pw_b (i := n) (by omega)
  refine ⟨by omega, fun q a b => by omega, by omega, fun i a b => ⟨fun h => absurd h (bit_0 i), fun ⟨q, a, b, _⟩ => by omega⟩, cntW_0 (fun w _ _ => bit_0 w), ?_⟩
  have e : lnB I 0 n.toNat = 0 := sm_z (fun q _ _ => cif_f (bit_0 q))
  rw [e]
  show I 49 7 = _
  omega
theorem NdC_s {I : Mm} {n k r c : Int} {P Q : Int → Int} (hn : 1 ≤ n ∧ n ≤ 6) (h : NdC I n P k r) (hk : k < n) (hc : 0 ≤ c ∧ c < n) (hb : ¬ bitP r c) (hQ : ∀ q : Int, 0 ≤ q → q < k → Q q = P q) (hQk : Q k = c) : NdC I n Q (k + 1) (r + 2 ^ c.toNat) ∧ (ptl I Q (k + 1).toNat).1 = (ptl I P k.toNat).1 + ltB I (I 49 7 + lnB I r n.toNat) c := by
  obtain ⟨h1, h2, h3, h4, h5, h6⟩ := h
  have ha := b6_add (n := n) (by omega) h3 hc hb
  have hp := pw_b (i := c) (by omega)
  have ep : ptl I Q k.toNat = ptl I P k.toNat := ptl_c (fun i a b => hQ i a (by omega))
  have es := ptl_s I Q h1.1
  rw [ep, hQk, h6] at es
  refine ⟨⟨by omega, fun q a b => ?_, ⟨by omega, ha.2.1⟩, fun i a b => ?_, by rw [pc_add (by omega) h3 hc hb]; omega, ?_⟩, ?_⟩
  · by_cases e : q = k
    · rw [e, hQk]; exact hc
    · rw [hQ q a (by omega)]; exact h2 q a (by omega)
  · rw [ha.2.2 i a (by omega), h4 i a b]
    constructor
    · rintro (⟨q, x, y, w⟩ | e)
      · exact ⟨q, x, by omega, by rw [hQ q x y]; exact w⟩
      · exact ⟨k, h1.1, by omega, by rw [hQk, e]⟩
    · rintro ⟨q, x, y, w⟩
      by_cases e : q = k
      · rw [e, hQk] at w; exact Or.inr w.symm
      · rw [hQ q x (by omega)] at w; exact Or.inl ⟨q, x, by omega, w⟩
  · rw [es, lnB_add (by omega) h3 hc hb]; dsimp only; omega
  · rw [es]; rfl
/-- the best so far (F, B) meets an order sq of lateness v -/
def updR (g : Int → Int) (n F : Int) (B : Int → Int) (F' : Int) (B' : Int → Int) (v : Int) (sq : Int → Int) : Prop := ((F = -4 ∨ v < F) → F' = v ∧ ∀ q : Int, 0 ≤ q → q < n → B' q = g (sq q)) ∧ (¬ (F = -4 ∨ v < F) → F' = F ∧ ∀ q : Int, 0 ≤ q → q < n → B' q = B q)
noncomputable def seqM (I : Mm) (E : Int → Int) (n : Int) (P : Int → Int) (k r : Int) : Int → Int := fun q => cif (q < k) (P q) (bbM I E n (gnM I E n r (q - k).toNat))
noncomputable def seqC (I : Mm) (E : Int → Int) (n : Int) (P : Int → Int) (k r i : Int) : Int → Int := fun q => cif (q < k) (P q) (cif (q = k) i (bbM I E n (gnM I E n (r + 2 ^ i.toNat) (q - k - 1).toNat)))
noncomputable def vlC (I : Mm) (E : Int → Int) (n s r i : Int) : Int := s + ltB I (I 49 7 + lnB I r n.toNat) i + E (r + 2 ^ i.toNat)
/-- after the candidates below c of a prefix -/
def CdI (I : Mm) (E : Int → Int) (n : Int) (P : Int → Int) (k r s F0 : Int) (B0 : Int → Int) (F : Int) (B : Int → Int) (c : Int) : Prop :=
  (F = F0 ∧ (∀ q : Int, 0 ≤ q → q < n → B q = B0 q) ∧ ∀ i : Int, 0 ≤ i → i < c → ¬ bitP r i → F0 ≠ -4 ∧ F0 ≤ vlC I E n s r i) ∨
  (∃ i : Int, (0 ≤ i ∧ i < c) ∧ ¬ bitP r i ∧ F = vlC I E n s r i ∧ (∀ j : Int, 0 ≤ j → j < c → ¬ bitP r j → vlC I E n s r i ≤ vlC I E n s r j) ∧ (∀ j : Int, 0 ≤ j → j < i → ¬ bitP r j → vlC I E n s r i < vlC I E n s r j) ∧ (F0 = -4 ∨ vlC I E n s r i < F0) ∧ ∀ q : Int, 0 ≤ q → q < n → B q = I 61 (seqC I E n P k r i q))
section SE
variable {I : Mm} {E : Int → Int} {n : Int} {P : Int → Int} {k r s F0 : Int} {B0 : Int → Int} {F : Int} {B : Int → Int} {c : Int}
theorem Cd_0 : CdI I E n P k r s F0 B0 F0 B0 0 := Or.inl ⟨rfl, fun _ _ _ => rfl, fun i a b => by omega⟩
theorem Cd_skip (h : CdI I E n P k r s F0 B0 F B c) (hb : bitP r c) : CdI I E n P k r s F0 B0 F B (c + 1) := by
  rcases h with ⟨a, b, d⟩ | ⟨i, i0, i1, i2, i3, i4, i5, i6⟩
  · refine Or.inl ⟨a, b, fun i x y z => ?_⟩
    by_cases e : i = c
    · subst e; exact absurd hb z
    · exact d i x (by omega) z
  · refine Or.inr ⟨i, by omega, i1, i2, fun j x y z => ?_, i4, i5, i6⟩
    by_cases e : j = c
    · subst e; exact absurd hb z
    · exact i3 j x (by omega) z
theorem Cd_step {F' : Int} {B' : Int → Int} (h : CdI I E n P k r s F0 B0 F B c) (hc : 0 ≤ c) (hb : ¬ bitP r c) (hv : ∀ i : Int, 0 ≤ i → i ≤ c → ¬ bitP r i → 0 ≤ vlC I E n s r i) (hu : updR (I 61) n F B F' B' (vlC I E n s r c) (seqC I E n P k r c)) : CdI I E n P k r s F0 B0 F' B' (c + 1) := by
  obtain ⟨u1, u2⟩ := hu
  rcases h with ⟨a, b, d⟩ | ⟨i, i0, i1, i2, i3, i4, i5, i6⟩
  · by_cases e : F = -4 ∨ vlC I E n s r c < F
    · obtain ⟨e1, e2⟩ := u1 e
      refine Or.inr ⟨c, by omega, hb, e1, fun j x y z => ?_, fun j x y z => ?_, by omega, e2⟩
      · by_cases q : j = c
        · subst q; exact Int.le_refl _
        · have := d j x (by omega) z; omega
      · have := d j x y z; omega
    · obtain ⟨e1, e2⟩ := u2 e
      refine Or.inl ⟨by omega, fun q x y => by rw [e2 q x y]; exact b q x y, fun j x y z => ?_⟩
      by_cases q : j = c
      · subst q; omega
      · exact d j x (by omega) z
  · have hvi := hv i i0.1 (by omega) i1
    by_cases e : vlC I E n s r c < F
    · obtain ⟨e1, e2⟩ := u1 (Or.inr e)
      refine Or.inr ⟨c, by omega, hb, e1, fun j x y z => ?_, fun j x y z => ?_, by omega, e2⟩
      · by_cases q : j = c
        · subst q; exact Int.le_refl _
        · have := i3 j x (by omega) z; omega
      · have := i3 j x y z; omega
    · obtain ⟨e1, e2⟩ := u2 (by omega)
      refine Or.inr ⟨i, by omega, i1, by omega, fun j x y z => ?_, i4, i5, fun q x y => by rw [e2 q x y]; exact i6 q x y⟩
      by_cases q : j = c
      · subst q; omega
      · exact i3 j x (by omega) z
theorem Cd_end (hT : TbM I E n) (hn : 1 ≤ n ∧ n ≤ 6) (hr : 0 ≤ r ∧ r < 2 ^ n.toNat - 1) (h : CdI I E n P k r s F0 B0 F B n) : updR (I 61) n F0 B0 F B (s + E r) (seqM I E n P k r) := by
  obtain ⟨t1, t2⟩ := hT.2.1 r hr.1 hr.2
  have hbr : 0 ≤ bbM I E n r ∧ bbM I E n r < n ∧ ¬ bitP r (bbM I E n r) ∧ vlC I E n s r (bbM I E n r) = s + E r := by
    rcases fstA_r (fun i => ¬ bitP r i ∧ ltB I (I 49 7 + lnB I r n.toNat) i + E (r + 2 ^ i.toNat) = E r) n.toNat with q | ⟨q1, q2, q3⟩
    · have e : bbM I E n r = -1 := q
      omega
    · refine ⟨q1, by unfold bbM; omega, q3.1, ?_⟩
      have := q3.2
      unfold vlC
      unfold bbM at *
      omega
  have hle : ∀ i : Int, 0 ≤ i → i < n → ¬ bitP r i → s + E r ≤ vlC I E n s r i := fun i a b d => by have := t1 i a b d; unfold vlC; omega
  rcases h with ⟨a, b, d⟩ | ⟨i, i0, i1, i2, i3, i4, i5, i6⟩
  · have := d _ hbr.1 hbr.2.1 hbr.2.2.1
    exact ⟨fun x => by omega, fun _ => ⟨a, b⟩⟩
  · have e1 := i3 _ hbr.1 hbr.2.1 hbr.2.2.1
    have e2 := hle i i0.1 i0.2 i1
    have ev : vlC I E n s r i = s + E r := by omega
    have ei : bbM I E n r = i := by
      refine fstA_some i0.1 ⟨i1, by unfold vlC at ev; omega⟩ (fun j a b q => ?_) (by omega)
      have := i4 j a b q.1
      have q2 := q.2
      unfold vlC at this ev
      omega
    refine ⟨fun _ => ⟨by omega, fun q x y => ?_⟩, fun x => absurd (by omega) x⟩
    rw [i6 q x y]
    congr 1
    unfold seqC seqM
    by_cases c1 : q < k
    · rw [cif_t c1, cif_t c1]
    · rw [cif_f c1, cif_f c1]
      by_cases c2 : q = k
      · rw [cif_t c2, c2, show (k - k).toNat = 0 by omega, gnM, ei]
      · rw [cif_f c2, show (q - k).toNat = (q - k - 1).toNat + 1 by omega, gnM_sh, ei]
end SE
