/-! ===== heaps, cuts, rules found: the class's way is the reference's ===== -/
theorem fld_sm (f : Int → Int) (s0 : Int) : ∀ n : Nat, fld (fun s a => s + f a) s0 n = s0 + sm f n
  | 0 => by simp [fld, sm]
  | n + 1 => by
    have e : fld (fun s a => s + f a) s0 (n + 1) = fld (fun s a => s + f a) s0 n + f n := rfl
    rw [e, fld_sm f s0 n, sm_n]
    omega
theorem sm_ext {f : Int → Int} {m n : Nat} (h : m ≤ n) (hz : ∀ q : Int, m ≤ q → q < n → f q = 0) : sm f n = sm f m := by
  induction n with
  | zero => have : m = 0 := by omega
            subst this; rfl
  | succ n ih =>
    by_cases c : m = n + 1
    · subst c; rfl
    · rw [sm_n, ih (by omega) (fun q a b => hz q a (by omega)), hz n (by omega) (by omega), Int.add_zero]
theorem trn_pr (g : Int → Int) {n : Int} (hn : 0 ≤ n) (f t : Int) : trn g n f t = pr (fun a b => g b < g a ∧ (f ≤ g a ∧ g a ≤ t) ∧ (f ≤ g b ∧ g b ≤ t)) n.toNat := by
  have h1 : trn g n f t = sm (fun b => sm (fun a => cif (g b < g a ∧ (f ≤ g a ∧ g a ≤ t) ∧ (f ≤ g b ∧ g b ≤ t)) 1 0) b.toNat) n.toNat := by
    unfold trn sm
    refine fld_cong fun s b b0 b1 => ?_
    exact fld_sm (fun a => cif (g b < g a ∧ (f ≤ g a ∧ g a ≤ t) ∧ (f ≤ g b ∧ g b ≤ t)) 1 0) s b.toNat
  rw [h1]
  have h2 : ∀ b : Int, 0 ≤ b → b < n.toNat → sm (fun a => cif (g b < g a ∧ (f ≤ g a ∧ g a ≤ t) ∧ (f ≤ g b ∧ g b ≤ t)) 1 0) b.toNat = sm (fun a => cif (a < b ∧ g b < g a ∧ (f ≤ g a ∧ g a ≤ t) ∧ (f ≤ g b ∧ g b ≤ t)) 1 0) n.toNat := by
    intro b b0 b1
    rw [sm_ext (m := b.toNat) (n := n.toNat) (by omega) (fun q a c => cif_f (by omega))]
    exact sm_c (fun a a0 a1 => cif_iff ⟨fun x => ⟨by omega, x⟩, fun x => x.2⟩)
  rw [sm_c h2]
  exact sm_swap (fun b a => cif (a < b ∧ g b < g a ∧ (f ≤ g a ∧ g a ≤ t) ∧ (f ≤ g b ∧ g b ≤ t)) 1 0) n.toNat n.toNat
theorem PS_trn (g : Int → Int) {n : Int} (hn : 0 ≤ n) (x y : Int) : PS g n.toNat x y = trn g n x y := by
  rw [trn_pr g hn]
  refine pr_c (fun a b _ _ _ => ?_)
  unfold pS
  omega
theorem sm_cnt (p : Int → Prop) : ∀ n : Nat, sm (fun h => cif (p h) 1 0) n = cntW p n := fun _ => rfl
theorem heaps_eq {g : Int → Int} {n k : Int} (hn : 0 ≤ n) (hk : k = 1 ∨ k = 2 ∨ k = 4 ∨ k = 8) (hg : ∀ q : Int, 0 ≤ q → q < n → 0 ≤ g q ∧ g q ≤ 31) : pr (fun a b => g b < g a ∧ g a * k / 32 = g b * k / 32) n.toNat = fld (fun a h => a + trn g n (32 / k * h) (32 / k * (h + 1) - 1)) 0 k.toNat := by
  have h1 : fld (fun a h => a + trn g n (32 / k * h) (32 / k * (h + 1) - 1)) 0 k.toNat = sm (fun h => pr (fun a b => g b < g a ∧ (32 / k * h ≤ g a ∧ g a ≤ 32 / k * (h + 1) - 1) ∧ (32 / k * h ≤ g b ∧ g b ≤ 32 / k * (h + 1) - 1)) n.toNat) k.toNat := by
    unfold sm
    exact fld_cong fun s h _ _ => by rw [trn_pr g hn]
  rw [h1]
  unfold pr
  rw [sm_swap]
  refine sm_c (fun a a0 a1 => ?_)
  unfold prI
  rw [sm_swap]
  refine sm_c (fun b b0 b1 => ?_)
  rw [sm_cnt]
  have ga := hg a a0 (by omega)
  have gb := hg b b0 (by omega)
  have key : ∀ x h : Int, 0 ≤ x → x ≤ 31 → (32 / k * h ≤ x ∧ x ≤ 32 / k * (h + 1) - 1 ↔ h = x * k / 32) ∧ 0 ≤ x * k / 32 ∧ x * k / 32 < k := by
    intro x h x0 x1
    rcases hk with rfl | rfl | rfl | rfl
    · show (32 * h ≤ x ∧ x ≤ 32 * (h + 1) - 1 ↔ h = x * 1 / 32) ∧ 0 ≤ x * 1 / 32 ∧ x * 1 / 32 < 1; omega
    · show (16 * h ≤ x ∧ x ≤ 16 * (h + 1) - 1 ↔ h = x * 2 / 32) ∧ 0 ≤ x * 2 / 32 ∧ x * 2 / 32 < 2; omega
    · show (8 * h ≤ x ∧ x ≤ 8 * (h + 1) - 1 ↔ h = x * 4 / 32) ∧ 0 ≤ x * 4 / 32 ∧ x * 4 / 32 < 4; omega
    · show (4 * h ≤ x ∧ x ≤ 4 * (h + 1) - 1 ↔ h = x * 8 / 32) ∧ 0 ≤ x * 8 / 32 ∧ x * 8 / 32 < 8; omega
  by_cases c : a < b ∧ g b < g a ∧ g a * k / 32 = g b * k / 32
  · rw [cif_t c]
    have ka := key (g a) (g a * k / 32) ga.1 ga.2
    refine (cnt_one (v := g a * k / 32) ka.2.1 (by omega) ⟨c.1, c.2.1, ka.1.mpr rfl, (key (g b) _ gb.1 gb.2).1.mpr c.2.2⟩ (fun w _ _ hw => (key (g a) w ga.1 ga.2).1.mp hw.2.2.1)).symm
  · rw [cif_f c]
    refine (cntW_0 (fun w _ _ hw => c ⟨hw.1, hw.2.1, ?_⟩)).symm
    rw [← (key (g a) w ga.1 ga.2).1.mp hw.2.2.1, ← (key (g b) w gb.1 gb.2).1.mp hw.2.2.2]
/-! cuts -/
def mnF (f : Int → Int) (m : Int) (n : Nat) : Int := fld (fun v j => min v (f j)) m n
theorem mnF_s (f : Int → Int) (m : Int) (n : Nat) : mnF f m (n + 1) = min (mnF f m n) (f n) := rfl
theorem mnF_le {f : Int → Int} {m : Int} : ∀ {n : Nat}, mnF f m n ≤ m ∧ ∀ i : Int, 0 ≤ i → i < n → mnF f m n ≤ f i
  | 0 => ⟨Int.le_refl _, fun i a b => by omega⟩
  | n + 1 => by
    obtain ⟨h1, h2⟩ := mnF_le (f := f) (m := m) (n := n)
    rw [mnF_s]
    refine ⟨by omega, fun i i0 i1 => ?_⟩
    by_cases c : i = n
    · subst c; omega
    · have := h2 i i0 (by omega); omega
theorem mnF_ge {f : Int → Int} {m L : Int} (hm : L ≤ m) : ∀ {n : Nat}, (∀ i : Int, 0 ≤ i → i < n → L ≤ f i) → L ≤ mnF f m n
  | 0, _ => hm
  | n + 1, h => by
    have h1 := mnF_ge hm (n := n) (fun i a b => h i a (by omega))
    have h2 := h n (by omega) (by omega)
    rw [mnF_s]; omega
theorem mnF_mono {f e : Int → Int} {m : Int} {n : Nat} (h : ∀ i : Int, 0 ≤ i → i < n → f i ≤ e i) : mnF f m n ≤ mnF e m n :=
  mnF_ge (mnF_le).1 (fun i a b => Int.le_trans ((mnF_le (f := f) (m := m) (n := n)).2 i a b) (h i a b))
/-- the reference's table, by the last rank that is in it -/
theorem cutv_mn (g : Int → Int) {n : Int} (hn : 0 ≤ n) (h : Nat) {b : Int} (hb : 0 ≤ b) : cutv g n 1 (b + 1) = PS g n.toNat 0 b ∧ cutv g n (h + 2) (b + 1) = mnF (fun j => cutv g n (h + 1) (j + 1) + PS g n.toNat (j + 1) b) (PS g n.toNat 0 b) b.toNat := by
  constructor
  · rw [cutv, cif_t rfl, PS_trn g hn, show b + 1 - 1 = b by omega]
  · rw [cutv, cif_f (by omega), show b + 1 - 1 = b by omega, PS_trn g hn]
    unfold mnF
    refine fld_cong fun v j j0 j1 => ?_
    dsimp only
    rw [PS_trn g hn]
    generalize cutv g n (h + 1) (j + 1) + trn g n (j + 1) b = w
    by_cases c : w < v
    · rw [cif_t c]; omega
    · rw [cif_f c]; omega
theorem cutv_mono (g : Int → Int) {n : Int} (hn : 0 ≤ n) : ∀ (h : Nat) (b : Int), 0 ≤ b → cutv g n (h + 2) (b + 1) ≤ cutv g n (h + 1) (b + 1)
  | 0, b, hb => by
    rw [(cutv_mn g hn 0 hb).2, (cutv_mn g hn 0 hb).1]
    exact mnF_le.1
  | h + 1, b, hb => by
    rw [(cutv_mn g hn (h + 1) hb).2, (cutv_mn g hn h hb).2]
    exact mnF_mono (fun j j0 j1 => Int.add_le_add_right (cutv_mono g hn h j j0) _)
theorem bcv_eq (g : Int → Int) {n : Int} (hn : 0 ≤ n) : ∀ (h : Nat) (b : Int), 0 ≤ b → bcv g n.toNat h b = cutv g n (h + 1) (b + 1)
  | 0, b, hb => by rw [bcv, (cutv_mn g hn 0 hb).1]
  | h + 1, b, hb => by
    have e : bcv g n.toNat (h + 1) b = mnF (fun j => cutv g n (h + 1) (j + 1) + PS g n.toNat (j + 1) b) (cutv g n (h + 1) (b + 1)) b.toNat := by
      rw [bcv]
      unfold mnH mnF
      rw [bcv_eq g hn h b hb]
      exact fld_cong fun v j j0 j1 => by rw [bcv_eq g hn h j j0]
    rw [e, (cutv_mn g hn h hb).2]
    apply Int.le_antisymm
    · refine mnF_ge ?_ (fun i a c => mnF_le.2 i a c)
      refine Int.le_trans mnF_le.1 ?_
      cases h with
      | zero => rw [(cutv_mn g hn 0 hb).1]; exact Int.le_refl _
      | succ h => rw [(cutv_mn g hn h hb).2]; exact mnF_le.1
    · refine mnF_ge ?_ (fun i a c => mnF_le.2 i a c)
      cases h with
      | zero => rw [(cutv_mn g hn 0 hb).1]; exact mnF_le.1
      | succ h =>
        rw [(cutv_mn g hn h hb).2]
        exact mnF_mono (fun j j0 j1 => Int.add_le_add_right (cutv_mono g hn h j j0) _)
theorem PS_c {g e : Int → Int} {n : Nat} (h : ∀ q : Int, 0 ≤ q → q < n → g q = e q) (x y : Int) : PS g n x y = PS e n x y := pr_c (fun a b a0 ab b1 => by unfold pS; rw [h a a0 (by omega), h b (by omega) b1])
theorem bcv_c {g e : Int → Int} {n : Nat} (h : ∀ q : Int, 0 ≤ q → q < n → g q = e q) : ∀ (k : Nat) (b : Int), 0 ≤ b → bcv g n k b = bcv e n k b
  | 0, b, _ => PS_c h 0 b
  | k + 1, b, hb => by
    rw [bcv, bcv]
    unfold mnH
    rw [bcv_c h k b hb]
    exact fld_cong fun v j j0 j1 => by rw [bcv_c h k j j0, PS_c h]
/-! rules found -/
theorem tm_d {k : Int} (h0 : 0 ≤ k) (h1 : k < 16) : tm k / 10 = k % 4 + 1 ∧ tm k % 10 - 1 = k / 4 := by
  unfold tm
  omega
theorem vlF_eq {I J : Mm} {w t : Int} (h0 : 0 ≤ t) (h1 : t ≤ 15) (hJ : ∀ k : Int, J (67 + w) k = I (67 + w) k) (hw : I (67 + w) 3 = I 55 (13 * w + 0) ∧ I (67 + w) 4 = I 55 (13 * w + 1) ∧ I (67 + w) 5 = I 55 (13 * w + 2) ∧ I (67 + w) 6 = I 55 (13 * w + 3)) : vlF J (67 + w) t = (t % 4 + 1) * I 55 (13 * w + t / 4) := by
  unfold vlF trt
  rw [cif_f (by omega)]
  congr 1
  have h4 : t / 4 = 0 ∨ t / 4 = 1 ∨ t / 4 = 2 ∨ t / 4 = 3 := by omega
  rw [hJ, hJ, hJ, hJ, hJ, hJ]
  rcases h4 with e | e | e | e <;> rw [e]
  · rw [cif_t rfl]; exact hw.1
  · rw [cif_f (by decide), cif_t rfl]; exact hw.2.1
  · rw [cif_f (by decide), cif_f (by decide), cif_t rfl]; exact hw.2.2.1
  · rw [cif_f (by decide), cif_f (by decide), cif_f (by decide), cif_t rfl]; exact hw.2.2.2
/-- the picked words of J are those of g; the words as in I -/
def PkE (I J : Mm) (g : Int → Int) (n : Int) : Prop := J 22 1 = n ∧ (∀ q : Int, 0 ≤ q → q < n → J 23 q = 67 + g q ∧ 0 ≤ g q ∧ g q < I 49 6) ∧ ∀ a k : Int, 67 ≤ a → J a k = I a k
theorem fit_eq {I J : Mm} {N : Int} (hI : Inv I N) {g : Int → Int} {n t s : Int} (hP : PkE I J g n) (h0 : 0 ≤ t) (h1 : t ≤ 15) (hs : s = -1 ∨ (0 ≤ s ∧ s ≤ 15)) : fitA J t s ↔ mks I g n (tm t) (cif (s = -1) 0 (tm s)) := by
  obtain ⟨e22, hr, hf⟩ := hP
  unfold fitA mks
  rw [e22]
  have key : ∀ k : Int, 1 ≤ k → k < n → (fitP J t s k ↔ okM I (tm t) (cif (s = -1) 0 (tm s)) (g (k - 1)) (g k)) := by
    intro k k0 k1
    obtain ⟨ra, ra0, ra1⟩ := hr (k - 1) (by omega) (by omega)
    obtain ⟨rb, rb0, rb1⟩ := hr k (by omega) k1
    obtain ⟨na, -, -, a3, a4, a5, a6, -⟩ := hI.wr _ ra0 ra1
    obtain ⟨nb, -, -, b3, b4, b5, b6, -⟩ := hI.wr _ rb0 rb1
    have va := vlF_eq (I := I) (J := J) (w := g (k - 1)) h0 h1 (fun q => hf _ q (by omega)) ⟨a3, a4, a5, a6⟩
    have vb := vlF_eq (I := I) (J := J) (w := g k) h0 h1 (fun q => hf _ q (by omega)) ⟨b3, b4, b5, b6⟩
    obtain ⟨d1, d2⟩ := tm_d h0 (by omega)
    unfold fitP vsF okM v2
    rw [ra, rb, hf _ 0 (by omega), hf _ 0 (by omega), na, nb, va, vb]
    have e1 : vv I (tm t) (g (k - 1)) (g k) = (t % 4 + 1) * I 55 (13 * g k + t / 4) - (t % 4 + 1) * I 55 (13 * g (k - 1) + t / 4) := by
      unfold vv
      rw [d1, d2, Int.mul_sub]
    rw [e1]
    generalize (t % 4 + 1) * I 55 (13 * g k + t / 4) = x
    generalize (t % 4 + 1) * I 55 (13 * g (k - 1) + t / 4) = y
    rcases hs with rfl | ⟨s0, s1⟩
    · have z1 : ∀ w : Int, vlF J w (-1) = 0 := fun w => by unfold vlF; rw [cif_t (by omega)]
      rw [z1, z1, cif_t (show (-1 : Int) = -1 from rfl), cif_t (show (0 : Int) = 0 from rfl)]
      omega
    · have va2 := vlF_eq (I := I) (J := J) (w := g (k - 1)) s0 s1 (fun q => hf _ q (by omega)) ⟨a3, a4, a5, a6⟩
      have vb2 := vlF_eq (I := I) (J := J) (w := g k) s0 s1 (fun q => hf _ q (by omega)) ⟨b3, b4, b5, b6⟩
      obtain ⟨d3, d4⟩ := tm_d s0 (show s < 16 by omega)
      have e2 : vv I (tm s) (g (k - 1)) (g k) = (s % 4 + 1) * I 55 (13 * g k + s / 4) - (s % 4 + 1) * I 55 (13 * g (k - 1) + s / 4) := by
        unfold vv
        rw [d3, d4, Int.mul_sub]
      have hok := tm_ok s0 (show s < 16 by omega)
      unfold okT at hok
      rw [cif_f (show ¬ s = -1 by omega), cif_f (show ¬ tm s = 0 by omega), va2, vb2, e2]
      generalize (s % 4 + 1) * I 55 (13 * g k + s / 4) = x2
      generalize (s % 4 + 1) * I 55 (13 * g (k - 1) + s / 4) = y2
      omega
  constructor
  · intro h k k0 k1
    exact (key k k0 k1).mp (h k k0 k1)
  · intro h k k0 k1
    exact (key k k0 k1).mpr (h k k0 k1)
theorem fstA_c {p q : Int → Prop} : ∀ {n : Nat}, (∀ i : Int, 0 ≤ i → i < n → (p i ↔ q i)) → fstA p n = fstA q n
  | 0, _ => rfl
  | n + 1, h => by
    have e : ∀ p : Int → Prop, fstA p (n + 1) = cif (fstA p n = -1 ∧ p n) (n : Int) (fstA p n) := fun _ => rfl
    rw [e, e, fstA_c (n := n) (fun i a b => h i a (by omega))]
    exact cif_iff (and_congr Iff.rfl (h n (by omega) (by omega)))
theorem frF_eq {I J : Mm} {N : Int} (hI : Inv I N) {g : Int → Int} {n : Int} (hP : PkE I J g n) : frF J = fndF I g n := by
  unfold frF fndF
  have e1 : fstA (fun a => fitA J a (-1)) 16 = fstA (fun a => mks I g n (tm a) 0) 16 := fstA_c (fun a a0 a1 => by
    have := fit_eq hI hP (t := a) (s := -1) a0 (by omega) (Or.inl rfl)
    rw [cif_t rfl] at this
    exact this)
  have e2 : fstA (fun a => fitA J (a / 16) (a % 16)) 256 = fstA (fun a => mks I g n (tm (a / 16)) (tm (a % 16))) 256 := fstA_c (fun a a0 a1 => by
    have := fit_eq hI hP (t := a / 16) (s := a % 16) (by omega) (by omega) (Or.inr ⟨by omega, by omega⟩)
    rw [cif_f (by omega)] at this
    exact this)
  rw [e1, e2]
