/-! ===== ranks in heaps, cuts ===== -/
def okRk (I : Mm) (s i n : Int) : Prop := ∀ k : Int, 0 ≤ k → k < n → 0 ≤ I 60 (24 * s + (i + k)) ∧ I 60 (24 * s + (i + k)) ≤ 31
noncomputable def rkF (I : Mm) (s lane i n : Int) : Int := cif (wrF I s lane i n = 1) (cif (okRk I s i n) 1 (-2)) (wrF I s lane i n)
/-- how many pairs stand the greater first, both between f and t -/
noncomputable def trn (g : Int → Int) (n f t : Int) : Int := fld (fun s b => fld (fun s a => s + cif (g b < g a ∧ (f ≤ g a ∧ g a ≤ t) ∧ (f ≤ g b ∧ g b ≤ t)) 1 0) s b.toNat) 0 n.toNat
theorem fld_cb {p : Int → Prop} {a0 : Int} : ∀ n : Nat, a0 ≤ fld (fun s a => s + cif (p a) 1 0) a0 n ∧ fld (fun s a => s + cif (p a) 1 0) a0 n ≤ a0 + n
  | 0 => by simp [fld]
  | n + 1 => by
    have h := fld_cb (p := p) (a0 := a0) n
    have h2 := cif01 (p n)
    have e : fld (fun s a => s + cif (p a) 1 0) a0 (n + 1) = fld (fun s a => s + cif (p a) 1 0) a0 n + cif (p n) 1 0 := rfl
    rw [e]
    omega
theorem trn_bb {g : Int → Int} {f t : Int} : ∀ n : Nat, n ≤ 24 → 0 ≤ fld (fun s b => fld (fun s a => s + cif (g b < g a ∧ (f ≤ g a ∧ g a ≤ t) ∧ (f ≤ g b ∧ g b ≤ t)) (1 : Int) 0) s b.toNat) (0 : Int) n ∧ fld (fun s b => fld (fun s a => s + cif (g b < g a ∧ (f ≤ g a ∧ g a ≤ t) ∧ (f ≤ g b ∧ g b ≤ t)) (1 : Int) 0) s b.toNat) (0 : Int) n ≤ 24 * n
  | 0, _ => by simp [fld]
  | n + 1, h => by
    have ih := trn_bb (g := g) (f := f) (t := t) n (by omega)
    have e : fld (fun s b => fld (fun s a => s + cif (g b < g a ∧ (f ≤ g a ∧ g a ≤ t) ∧ (f ≤ g b ∧ g b ≤ t)) (1 : Int) 0) s b.toNat) (0 : Int) (n + 1) = fld (fun s a => s + cif (g n < g a ∧ (f ≤ g a ∧ g a ≤ t) ∧ (f ≤ g n ∧ g n ≤ t)) 1 0) (fld (fun s b => fld (fun s a => s + cif (g b < g a ∧ (f ≤ g a ∧ g a ≤ t) ∧ (f ≤ g b ∧ g b ≤ t)) (1 : Int) 0) s b.toNat) (0 : Int) n) (n : Int).toNat := rfl
    rw [e]
    have h2 := fld_cb (p := fun a => g n < g a ∧ (f ≤ g a ∧ g a ≤ t) ∧ (f ≤ g n ∧ g n ≤ t)) (a0 := fld (fun s b => fld (fun s a => s + cif (g b < g a ∧ (f ≤ g a ∧ g a ≤ t) ∧ (f ≤ g b ∧ g b ≤ t)) (1 : Int) 0) s b.toNat) (0 : Int) n) (n : Int).toNat
    omega
theorem trn_b {g : Int → Int} {n f t : Int} (hn : n ≤ 24) : 0 ≤ trn g n f t ∧ trn g n f t ≤ 600 := by
  have := trn_bb (g := g) (f := f) (t := t) n.toNat (by omega)
  unfold trn
  omega
theorem fld_cong {α : Type} {g h : α → Int → α} {a0 : α} : ∀ {n : Nat}, (∀ (a : α) (i : Int), 0 ≤ i → i < n → g a i = h a i) → fld g a0 n = fld h a0 n
  | 0, _ => rfl
  | n + 1, hh => by
    rw [fld, fld, fld_cong (n := n) (fun a i h0 h1 => hh a i h0 (by omega)), hh _ n (by omega) (by omega)]
theorem trn_cong {g h : Int → Int} {n f t : Int} (hg : ∀ q : Int, 0 ≤ q → q < n → g q = h q) : trn g n f t = trn h n f t := by
  unfold trn
  refine fld_cong fun s b b0 b1 => fld_cong fun s a a0 a1 => ?_
  rw [hg a a0 (by omega), hg b b0 (by omega)]
noncomputable def itm (I : Mm) (s i : Int) : Int → Int := fun q => I 60 (24 * s + (i + q))
noncomputable def aHeaps (I : Mm) (s lane i n k : Int) : Int := cif ((0 ≤ s ∧ s ≤ 3) ∧ (0 ≤ lane ∧ lane ≤ 2) ∧ (1 ≤ n ∧ n ≤ 24) ∧ (k = 1 ∨ k = 2 ∨ k = 4 ∨ k = 8)) (cif (rkF I s lane i n = 1) (fld (fun a h => a + trn (itm I s i) n (32 / k * h) (32 / k * (h + 1) - 1)) 0 k.toNat) (rkF I s lane i n)) (-1)
/-- the least number of such pairs with h heaps for the ranks below t -/
noncomputable def cutv (g : Int → Int) (n : Int) : Nat → Int → Int
  | 0, _ => 0
  | h + 1, t => cif (h = 0) (trn g n 0 (t - 1)) (fld (fun b j => cif (cutv g n h (j + 1) + trn g n (j + 1) (t - 1) < b) (cutv g n h (j + 1) + trn g n (j + 1) (t - 1)) b) (trn g n 0 (t - 1)) (t - 1).toNat)
theorem cutv_b {g : Int → Int} {n : Int} (hn : n ≤ 24) : ∀ (h : Nat) (t : Int), 0 ≤ cutv g n h t ∧ cutv g n h t ≤ 600
  | 0, _ => by simp [cutv]
  | h + 1, t => by
    rw [cutv]
    by_cases c : h = 0
    · rw [cif_t c]; exact trn_b hn
    · rw [cif_f c]
      have key : ∀ m : Nat, 0 ≤ fld (fun b j => cif (cutv g n h (j + 1) + trn g n (j + 1) (t - 1) < b) (cutv g n h (j + 1) + trn g n (j + 1) (t - 1)) b) (trn g n 0 (t - 1)) m ∧ fld (fun b j => cif (cutv g n h (j + 1) + trn g n (j + 1) (t - 1) < b) (cutv g n h (j + 1) + trn g n (j + 1) (t - 1)) b) (trn g n 0 (t - 1)) m ≤ 600 := by
        intro m
        induction m with
        | zero => exact trn_b hn
        | succ m ih =>
          rw [fld]
          have h1 := cutv_b (g := g) hn h ((m : Int) + 1)
          have h2 := trn_b (g := g) (f := (m : Int) + 1) (t := t - 1) hn
          generalize fld (fun b j => cif (cutv g n h (j + 1) + trn g n (j + 1) (t - 1) < b) (cutv g n h (j + 1) + trn g n (j + 1) (t - 1)) b) (trn g n 0 (t - 1)) m = b at ih ⊢
          by_cases c2 : cutv g n h ((m : Int) + 1) + trn g n ((m : Int) + 1) (t - 1) < b
          · rw [cif_t c2]; omega
          · rw [cif_f c2]; exact ih
      exact key _
noncomputable def aCut (I : Mm) (s lane i n k : Int) : Int := cif ((0 ≤ s ∧ s ≤ 3) ∧ (0 ≤ lane ∧ lane ≤ 2) ∧ (1 ≤ n ∧ n ≤ 24) ∧ (1 ≤ k ∧ k ≤ 8)) (cif (rkF I s lane i n = 1) (cutv (itm I s i) n k.toNat 32) (rkF I s lane i n)) (-1)
