/-! ===== the store: what its loops make, as functions of the class's cells ===== -/
theorem lnA_in {I : Mm} {N c r i : Int} (hL : LnC I N c r) (h0 : 0 ≤ i) (h1 : i < I c 1) : lnA I c r i = I r i := by
  unfold lnA
  have := hL.1
  rw [cif_t (by omega)]
/-- the best place by lt among those with p (the first of equals), or -1 -/
noncomputable def bstL (p : Int → Prop) (lt : Int → Int → Prop) (n : Nat) : Int := fld (fun b i => cif (p i ∧ (b = -1 ∨ lt i b)) i b) (-1) n
theorem bstL_s (p : Int → Prop) (lt : Int → Int → Prop) {i : Int} (h : 0 ≤ i) : bstL p lt (i + 1).toNat = cif (p i ∧ (bstL p lt i.toNat = -1 ∨ lt i (bstL p lt i.toNat))) i (bstL p lt i.toNat) := fld_s _ _ h
theorem bstL_r (p : Int → Prop) (lt : Int → Int → Prop) : ∀ n : Nat, bstL p lt n = -1 ∨ (0 ≤ bstL p lt n ∧ bstL p lt n < n ∧ p (bstL p lt n))
  | 0 => Or.inl rfl
  | n + 1 => by
    have h := bstL_r p lt n
    have e : bstL p lt (n + 1) = cif (p n ∧ (bstL p lt n = -1 ∨ lt n (bstL p lt n))) (n : Int) (bstL p lt n) := rfl
    by_cases hc : p n ∧ (bstL p lt n = -1 ∨ lt n (bstL p lt n))
    · rw [e, cif_t hc]
      exact Or.inr ⟨by omega, by omega, hc.1⟩
    · rw [e, cif_f hc]
      rcases h with h | ⟨h1, h2, h3⟩
      · exact Or.inl h
      · exact Or.inr ⟨h1, by omega, h3⟩
/-- the last place with p, or -1 -/
noncomputable def lstL (p : Int → Prop) (n : Nat) : Int := fld (fun b i => cif (p i) i b) (-1) n
theorem lstL_s (p : Int → Prop) {i : Int} (h : 0 ≤ i) : lstL p (i + 1).toNat = cif (p i) i (lstL p i.toNat) := fld_s _ _ h
theorem lstL_r (p : Int → Prop) : ∀ n : Nat, lstL p n = -1 ∨ (0 ≤ lstL p n ∧ lstL p n < n ∧ p (lstL p n))
  | 0 => Or.inl rfl
  | n + 1 => by
    have h := lstL_r p n
    have e : lstL p (n + 1) = cif (p n) (n : Int) (lstL p n) := rfl
    by_cases hc : p n
    · rw [e, cif_t hc]
      exact Or.inr ⟨by omega, by omega, hc⟩
    · rw [e, cif_f hc]
      rcases h with h | ⟨h1, h2, h3⟩
      · exact Or.inl h
      · exact Or.inr ⟨h1, by omega, h3⟩
/-- what stands at a place of a row; nothing at -1 -/
noncomputable def celL (I : Mm) (r b : Int) : Int := cif (b = -1) (-1) (I r b)
theorem celL_n (I : Mm) (r : Int) : celL I r (-1) = -1 := by unfold celL; rw [cif_t rfl]
theorem celL_i {I : Mm} {r b : Int} (h : 0 ≤ b) : celL I r b = I r b := by unfold celL; rw [cif_f (by omega)]
/-- bits of the open houses -/
def bitP (r g : Int) : Prop := r / 2 ^ g.toNat % 2 = 1
theorem bit_or {r h : Int} (hr : 0 ≤ r ∧ r < 16) (hh : 0 ≤ h ∧ h ≤ 3) : ∃ s : Int, Int32.ofInt 1 <<< (Int32.ofInt h &&& 31) = Int32.ofInt s ∧ ∃ q : Int, Int32.ofInt r ||| Int32.ofInt s = Int32.ofInt q ∧ (0 ≤ q ∧ q < 16) ∧ ∀ g : Int, 0 ≤ g → g ≤ 3 → (bitP q g ↔ bitP r g ∨ g = h) := by
  have key : ∀ h' : Nat, h' < 4 → ∀ r' : Nat, r' < 16 → Int32.ofInt 1 <<< (Int32.ofInt (h' : Int) &&& 31) = Int32.ofInt ((2 ^ h' : Nat) : Int) ∧ Int32.ofInt (r' : Int) ||| Int32.ofInt ((2 ^ h' : Nat) : Int) = Int32.ofInt ((r' ||| 2 ^ h' : Nat) : Int) ∧ (r' ||| 2 ^ h') < 16 ∧ ∀ g : Nat, g < 4 → (((r' ||| 2 ^ h') / 2 ^ g % 2 = 1) ↔ (r' / 2 ^ g % 2 = 1) ∨ g = h') := by decide +kernel
  obtain ⟨h1, h2, q1, h3⟩ := key h.toNat (by omega) r.toNat (by omega)
  generalize hs : 2 ^ h.toNat = s at h1 h2 q1 h3
  generalize r.toNat ||| s = q at h2 q1 h3
  rw [Int.toNat_of_nonneg hh.1] at h1
  rw [Int.toNat_of_nonneg hr.1] at h2
  refine ⟨s, h1, q, h2, by omega, fun g g0 g1 => ?_⟩
  have := h3 g.toNat (by omega)
  have e1 : bitP (q : Int) g ↔ q / 2 ^ g.toNat % 2 = 1 := by
    unfold bitP
    have : ((q : Int) / 2 ^ g.toNat % 2) = ((q / 2 ^ g.toNat % 2 : Nat) : Int) := by norm_cast
    rw [this]
    omega
  have e2 : bitP r g ↔ r.toNat / 2 ^ g.toNat % 2 = 1 := by
    unfold bitP
    have h0 : r = ((r.toNat : Nat) : Int) := by omega
    rw [h0]
    have : (((r.toNat : Nat) : Int) / 2 ^ g.toNat % 2) = ((r.toNat / 2 ^ g.toNat % 2 : Nat) : Int) := by norm_cast
    rw [this]
    simp only [Int.toNat_natCast]
    omega
  rw [e1, e2, this]
  omega
theorem bit_get {r h : Int} (hr : 0 ≤ r ∧ r < 16) (hh : 0 ≤ h ∧ h ≤ 3) : ∃ s : Int, Int32.ofInt r >>> (Int32.ofInt h &&& 31) = Int32.ofInt s ∧ ∃ q : Int, Int32.ofInt s &&& Int32.ofInt 1 = Int32.ofInt q ∧ (q = 0 ∨ q = 1) ∧ (q ≠ 0 ↔ bitP r h) := by
  have key : ∀ h' : Nat, h' < 4 → ∀ r' : Nat, r' < 16 → ∃ s : Nat, s < 16 ∧ Int32.ofInt (r' : Int) >>> (Int32.ofInt (h' : Int) &&& 31) = Int32.ofInt (s : Int) ∧ ∃ q : Nat, q < 2 ∧ Int32.ofInt (s : Int) &&& Int32.ofInt 1 = Int32.ofInt (q : Int) ∧ (q ≠ 0 ↔ (r' / 2 ^ h' % 2 = 1)) := by decide +kernel
  obtain ⟨s, -, h1, q, q1, h2, h3⟩ := key h.toNat (by omega) r.toNat (by omega)
  rw [Int.toNat_of_nonneg hh.1, Int.toNat_of_nonneg hr.1] at h1
  refine ⟨s, h1, q, h2, by omega, ?_⟩
  have e2 : bitP r h ↔ r.toNat / 2 ^ h.toNat % 2 = 1 := by
    unfold bitP
    have h0 : r = ((r.toNat : Nat) : Int) := by omega
    rw [h0]
    have : (((r.toNat : Nat) : Int) / 2 ^ h.toNat % 2) = ((r.toNat / 2 ^ h.toNat % 2 : Nat) : Int) := by norm_cast
    rw [this]
    simp only [Int.toNat_natCast]
    omega
  rw [e2, ← h3]
  omega
/-- house h has an open word at t -/
def opH (I : Mm) (t h : Int) (n : Int) : Prop := ∃ i : Int, 0 ≤ i ∧ i < n ∧ I (I 14 i) 9 ≤ t ∧ I (I 14 i) 2 = h
/-- every waiting word and mark has a house from 0 to 3 -/
def HsC (I : Mm) (c r : Int) : Prop := ∀ i : Int, 0 ≤ i → i < I c 1 → 0 ≤ I (I r i) 2 ∧ I (I r i) 2 ≤ 3
noncomputable def nxM (I : Mm) (t : Int) : Int := bstL (fun i => opH I t (I (I 16 i) 2) (I 13 1)) (fun i b => crk I 10 (I 16 i) < crk I 10 (I 16 b)) (I 15 1).toNat
noncomputable def lsO (I : Mm) (h t : Int) : Int := bstL (fun i => I (I 14 i) 2 = h ∧ I (I 14 i) 9 ≤ t) (fun i b => crk I 8 (I 14 i) < crk I 8 (I 14 b)) (I 13 1).toNat
noncomputable def grL (I : Mm) : Int := bstL (fun _ => True) (fun i b => crk I 8 (I 14 b) ≤ crk I 8 (I 14 i)) (I 13 1).toNat
noncomputable def cnS (I : Mm) (s : Int) : Int := cntW (fun i => I (I 14 i) 1 = s) (I 13 1).toNat
noncomputable def fuS (I : Mm) : Int := fld (fun f j => cif (cnS I f < cnS I (j + 1)) (j + 1) f) 0 7
noncomputable def laO (I : Mm) (s : Int) : Int := lstL (fun i => I (I 14 i) 1 = s) (I 13 1).toNat
noncomputable def laM (I : Mm) (h : Int) : Int := lstL (fun i => I (I 16 i) 2 = h) (I 15 1).toNat
/-- the next word: its cell, or -1 -/
noncomputable def nxW (I : Mm) (t : Int) : Int := cif (nxM I t = -1) (-1) (celL I 14 (lsO I (I (I 16 (nxM I t)) 2) t))
noncomputable def rmC (I : Mm) (c r i : Int) : Mm := cif (0 ≤ i ∧ i < I c 1) (rmL I c r i) I
/-- the store without the word at w and the mark at place q -/
noncomputable def gTake (I : Mm) (q w : Int) : Mm := rmC (rmC I 15 16 q) 13 14 (fstA (fun i => rmC I 15 16 q 14 i = w) (rmC I 15 16 q 13 1).toNat)
noncomputable def gDis1 (I : Mm) (w : Int) : Mm := rmC I 13 14 (fstA (fun i => I 14 i = w) (I 13 1).toNat)
noncomputable def gDisQ (J : Mm) (w : Int) : Int := cif (0 ≤ fstA (fun i => J 16 i = w) (J 15 1).toNat) (fstA (fun i => J 16 i = w) (J 15 1).toNat) (laM J (J w 2))
noncomputable def gDis (I : Mm) (w : Int) : Mm := rmC (gDis1 I w) 15 16 (gDisQ (gDis1 I w) w)
noncomputable def vic (I : Mm) (d : Int) : Int := cif (d = 1) (celL I 14 (grL I)) (cif (d = 2) (celL I 14 (laO I (fuS I))) (lnA I 13 14 (I 13 1 - 1)))
theorem rmC_n {I : Mm} {c r i a : Int} (h1 : a ≠ c) (h2 : a ≠ r) (q : Int) : rmC I c r i a q = I a q := by
  unfold rmC
  by_cases h : 0 ≤ i ∧ i < I c 1
  · rw [cif_t h]
    unfold rmL
    rw [cif_f h2, cif_f (fun x => h1 x.1)]
  · rw [cif_f h]
theorem LnC_rm {I : Mm} {N c r i c' r' : Int} (h : LnC I N c' r') (h1 : c' ≠ c) (h2 : c' ≠ r) (h3 : r' ≠ c) (h4 : r' ≠ r) : LnC (rmC I c r i) N c' r' := by
  unfold LnC
  rw [rmC_n h1 h2]
  refine ⟨h.1, fun j j0 j1 => ?_⟩
  rw [rmC_n h3 h4]
  exact h.2 j j0 j1
theorem bstL_y {p : Int → Prop} {lt : Int → Int → Prop} {i : Int} (h : 0 ≤ i) (hp : p i) (hl : bstL p lt i.toNat = -1 ∨ lt i (bstL p lt i.toNat)) : bstL p lt (i + 1).toNat = i := by
  rw [bstL_s _ _ h, cif_t ⟨hp, hl⟩]
theorem bstL_n {p : Int → Prop} {lt : Int → Int → Prop} {i : Int} (h : 0 ≤ i) (hn : ¬ (p i ∧ (bstL p lt i.toNat = -1 ∨ lt i (bstL p lt i.toNat)))) : bstL p lt (i + 1).toNat = bstL p lt i.toNat := by
  rw [bstL_s _ _ h, cif_f hn]
/-- a loop with two numbers -/
theorem loop_inv2 {α β : Type} (i0 m : Int) (hm : i0 ≤ m) (J : Int → α → β → Prop) (P : Int → α → β → Prop) (hend : ∀ s t, J m s t → P m s t) (hs : ∀ (i : Int) (s : α) (t : β), i0 ≤ i → i < m → J i s t → (∀ s' t', J (i + 1) s' t' → P (i + 1) s' t') → P i s t) (s : α) (t : β) (h0 : J i0 s t) : P i0 s t :=
  loop_inv (α := α × β) i0 m hm (fun i q => J i q.1 q.2) (fun i q => P i q.1 q.2) (fun q h => hend q.1 q.2 h) (fun i q h1 h2 h3 h4 => hs i q.1 q.2 h1 h2 h3 (fun s' t' h' => h4 (s', t') h')) (s, t) h0
noncomputable def fGt (I : Mm) (t : Int) : Int := fld (fun a i => min a (I (I 14 i) 9)) t (I 13 1).toNat
theorem fGt_r {I : Mm} (hF : Fx I) {t : Int} (ht : -2147483648 ≤ t ∧ t ≤ 2147483647) : ∀ n : Nat, -2147483648 ≤ fld (fun a i => min a (I (I 14 i) 9)) t n ∧ fld (fun a i => min a (I (I 14 i) 9)) t n ≤ 2147483647
  | 0 => ht
  | n + 1 => by
    have h := fGt_r hF ht n
    have h2 := hF.2.1 (I 14 n) 9
    have e : fld (fun a i => min a (I (I 14 i) 9)) t (n + 1) = min (fld (fun a i => min a (I (I 14 i) 9)) t n) (I (I 14 n) 9) := rfl
    rw [e]
    omega
theorem oI_or0 (s : Int) : Int32.ofInt s ||| Int32.ofInt 0 = Int32.ofInt s := by
  apply Int32.toBitVec_inj.mp
  show (Int32.ofInt s).toBitVec ||| 0#32 = _
  simp
theorem V_lkp {x : Cx} {z : Nat} {own : String} {cc : ByteArray} {nL : Nat} {ret : Option FieldType} {fr lo mc ms : Nat} {Po : Pst} {N : Int} {I : Mm} {k n pc : Nat} {L : List (Option Value)} {st : List Value} (hx : OK x z own cc nL ret fr lo mc ms) {a dflt off : Int} {ps : Array (Int × Int)} {len tgt : Nat} (hd : decode cc pc = .ok (.lookupswitch dflt ps, len)) (ha : -2147483648 ≤ a ∧ a ≤ 2147483647) (hp : (ps.toList.zip (ps.toList.drop 1)).all (fun (a, next) => a.1 < next.1) = true) (ho : Op.lookupswitch.offset ps.toList dflt a = off) (ht : (pc : Int) + off = (tgt : Int)) (kk : V x z Po N I k n tgt L st) : V x z Po N I k n pc L (vI a :: st) :=
  fun H locs ls hP hS hl => lv_lookup hx.1 hx.2.1 hd hp (by rw [oI_rt ha]; exact ho) ht (kk H locs ls hP hS hl)
/-- what the store must be -/
def StoC (I : Mm) (N : Int) : Prop := LnC I N 13 14 ∧ LnC I N 15 16 ∧ HsC I 13 14 ∧ HsC I 15 16
theorem opH_s {I : Mm} {t g i : Int} (hi : 0 ≤ i) : opH I t g (i + 1) ↔ opH I t g i ∨ (I (I 14 i) 9 ≤ t ∧ I (I 14 i) 2 = g) := by
  constructor
  · rintro ⟨j, h1, h2, h3, h4⟩
    by_cases hj : j = i
    · subst hj; exact Or.inr ⟨h3, h4⟩
    · exact Or.inl ⟨j, h1, by omega, h3, h4⟩
  · rintro (⟨j, h1, h2, h3, h4⟩ | ⟨h3, h4⟩)
    · exact ⟨j, h1, by omega, h3, h4⟩
    · exact ⟨i, hi, by omega, h3, h4⟩
theorem opH_0 {I : Mm} {t g : Int} : ¬ opH I t g 0 := by
  rintro ⟨j, h1, h2, -⟩
  omega
theorem bit_0 (g : Int) : ¬ bitP 0 g := by
  unfold bitP
  simp
theorem celL_r {I : Mm} {N c r : Int} (hL : LnC I N c r) {b : Int} (hb : b = -1 ∨ (0 ≤ b ∧ b < I c 1)) : (celL I r b < 0 ↔ b = -1) ∧ (b ≠ -1 → 67 ≤ celL I r b ∧ celL I r b < N ∧ celL I r b = I r b) := by
  rcases hb with rfl | ⟨h0, h1⟩
  · rw [celL_n]
    exact ⟨by omega, fun h => absurd rfl h⟩
  · rw [celL_i h0]
    have := hL.2 b h0 h1
    exact ⟨by omega, fun _ => ⟨this.1, this.2, rfl⟩⟩
theorem c_X1_at13i {l : Launch} {d : Dd} {z : Nat} {N : Int} {I : Mm} {i : Int} (hN : 67 ≤ N) (hF : Fx I) (hL : LnC I N 13 14) (h0 : 0 ≤ i) (h1 : i < I 13 1) : Cn l d z yX1_at cX1_at 2 (some (.object "TurnPort$Word")) 0 0 0 0 [vR z 13, vI i] N I (pv (vR z (I 14 i)) N I) := by
  have := c_X1_at13 (l := l) (d := d) (z := z) (i := i) hN hF (by have := hL.1; omega)
  rw [lnA_in hL h0 h1] at this
  exact this
theorem c_X1_at15i {l : Launch} {d : Dd} {z : Nat} {N : Int} {I : Mm} {i : Int} (hN : 67 ≤ N) (hF : Fx I) (hL : LnC I N 15 16) (h0 : 0 ≤ i) (h1 : i < I 15 1) : Cn l d z yX1_at cX1_at 2 (some (.object "TurnPort$Word")) 0 0 0 0 [vR z 15, vI i] N I (pv (vR z (I 16 i)) N I) := by
  have := c_X1_at15 (l := l) (d := d) (z := z) (i := i) hN hF (by have := hL.1; omega)
  rw [lnA_in hL h0 h1] at this
  exact this
