/-! ===== sums, pairs in a row; the table of heaps ===== -/
def sm (f : Int → Int) (n : Nat) : Int := fld (fun s i => s + f i) 0 n
theorem sm_s (f : Int → Int) {i : Int} (h : 0 ≤ i) : sm f (i + 1).toNat = sm f i.toNat + f i := fld_s _ _ h
theorem sm_n (f : Int → Int) (n : Nat) : sm f (n + 1) = sm f n + f n := rfl
theorem sm_b {f : Int → Int} {B : Int} (hf : ∀ i : Int, 0 ≤ f i ∧ f i ≤ B) (n : Nat) : 0 ≤ sm f n ∧ sm f n ≤ n * B := by
  have := fld_b (f := f) (a0 := 0) (B := B) hf n
  unfold sm
  omega
theorem sm_z {f : Int → Int} : ∀ {n : Nat}, (∀ q : Int, 0 ≤ q → q < n → f q = 0) → sm f n = 0
  | 0, _ => rfl
  | n + 1, h => by
    rw [sm_n, sm_z (n := n) (fun q h0 h1 => h q h0 (by omega)), h n (by omega) (by omega)]
    rfl
theorem sm_c {f g : Int → Int} : ∀ {n : Nat}, (∀ q : Int, 0 ≤ q → q < n → f q = g q) → sm f n = sm g n
  | 0, _ => rfl
  | n + 1, h => by
    rw [sm_n, sm_n, sm_c (n := n) (fun q h0 h1 => h q h0 (by omega)), h n (by omega) (by omega)]
theorem sm_lin (f1 f2 f3 f4 : Int → Int) : ∀ n : Nat, sm (fun i => f1 i + f2 i + f3 i - f4 i) n = sm f1 n + sm f2 n + sm f3 n - sm f4 n
  | 0 => rfl
  | n + 1 => by
    rw [sm_n, sm_n, sm_n, sm_n, sm_n, sm_lin f1 f2 f3 f4 n]
    omega
theorem sm_add (f g : Int → Int) : ∀ n : Nat, sm (fun i => f i + g i) n = sm f n + sm g n
  | 0 => rfl
  | n + 1 => by
    rw [sm_n, sm_n, sm_n, sm_add f g n]
    omega
theorem sm_swap (f : Int → Int → Int) (m : Nat) : ∀ n : Nat, sm (fun a => sm (fun b => f a b) m) n = sm (fun b => sm (fun a => f a b) n) m
  | 0 => (sm_z (fun _ _ _ => rfl)).symm
  | n + 1 => by
    rw [sm_n, sm_swap f m n, ← sm_add]
    exact sm_c (fun q _ _ => rfl)
/-- how many pairs a < b below n have p -/
noncomputable def prI (p : Int → Int → Prop) (n : Nat) (a : Int) : Int := sm (fun b => cif (a < b ∧ p a b) 1 0) n
noncomputable def pr (p : Int → Int → Prop) (n : Nat) : Int := sm (prI p n) n
theorem prI_b (p : Int → Int → Prop) (n : Nat) (a : Int) : 0 ≤ prI p n a ∧ prI p n a ≤ n := by
  have := sm_b (f := fun b => cif (a < b ∧ p a b) 1 0) (B := 1) (fun i => by have := cif01 (a < i ∧ p a i); omega) n
  unfold prI
  omega
theorem pr_b (p : Int → Int → Prop) {m n : Nat} (hn : n ≤ 24) (hm : m ≤ 24) : 0 ≤ sm (prI p n) m ∧ sm (prI p n) m ≤ 576 := by
  have := sm_b (f := prI p n) (B := 24) (fun i => by have := prI_b p n i; omega) m
  omega
theorem pr_c {p q : Int → Int → Prop} {n : Nat} (h : ∀ a b : Int, 0 ≤ a → a < b → b < n → (p a b ↔ q a b)) : pr p n = pr q n := by
  refine sm_c (fun a a0 a1 => sm_c (fun b b0 b1 => ?_))
  by_cases c : a < b
  · exact cif_iff ⟨fun r => ⟨c, (h a b a0 c b1).mp r.2⟩, fun r => ⟨c, (h a b a0 c b1).mpr r.2⟩⟩
  · rw [cif_f (fun r => c r.1), cif_f (fun r => c r.1)]
/-- a pair of a row that stands the greater first, with the ranks x and y; within x .. y -/
def pX (g : Int → Int) (x y : Int) : Int → Int → Prop := fun a b => g b < g a ∧ g b = x ∧ g a = y
def pS (g : Int → Int) (x y : Int) : Int → Int → Prop := fun a b => g b < g a ∧ x ≤ g b ∧ g a ≤ y
noncomputable def PX (g : Int → Int) (n : Nat) (x y : Int) : Int := pr (pX g x y) n
noncomputable def PS (g : Int → Int) (n : Nat) (x y : Int) : Int := pr (pS g x y) n
theorem pr_z {p : Int → Int → Prop} {n : Nat} (h : ∀ a b : Int, ¬ p a b) : pr p n = 0 :=
  sm_z (fun a _ _ => sm_z (fun b _ _ => cif_f (fun r => h a b r.2)))
theorem PS_rec (g : Int → Int) (n : Nat) {x y : Int} (h : x < y) : PS g n x y = PX g n x y + PS g n (x + 1) y + PS g n x (y - 1) - PS g n (x + 1) (y - 1) := by
  unfold PS PX pr
  rw [← sm_lin]
  refine sm_c (fun a _ _ => ?_)
  unfold prI
  rw [← sm_lin]
  refine sm_c (fun b _ _ => ?_)
  unfold pS pX
  by_cases c : a < b ∧ g b < g a
  · by_cases c1 : x ≤ g b <;> by_cases c2 : g a ≤ y
    · by_cases c3 : g b = x <;> by_cases c4 : g a = y
      · rw [cif_t (by omega), cif_t (by omega), cif_f (by omega), cif_f (by omega), cif_f (by omega)]; rfl
      · rw [cif_t (by omega), cif_f (by omega), cif_f (by omega), cif_t (by omega), cif_f (by omega)]; rfl
      · rw [cif_t (by omega), cif_f (by omega), cif_t (by omega), cif_f (by omega), cif_f (by omega)]; rfl
      · rw [cif_t (by omega), cif_f (by omega), cif_t (by omega), cif_t (by omega), cif_t (by omega)]; rfl
    · rw [cif_f (by omega), cif_f (by omega), cif_f (by omega), cif_f (by omega), cif_f (by omega)]; rfl
    · rw [cif_f (by omega), cif_f (by omega), cif_f (by omega), cif_f (by omega), cif_f (by omega)]; rfl
    · rw [cif_f (by omega), cif_f (by omega), cif_f (by omega), cif_f (by omega), cif_f (by omega)]; rfl
  · rw [cif_f (by omega), cif_f (by omega), cif_f (by omega), cif_f (by omega), cif_f (by omega)]; rfl
theorem PX_z (g : Int → Int) (n : Nat) {x y : Int} (h : y ≤ x) : PX g n x y = 0 := pr_z (fun a b r => by unfold pX at r; omega)
theorem PS_z (g : Int → Int) (n : Nat) {x y : Int} (h : y ≤ x) : PS g n x y = 0 := pr_z (fun a b r => by unfold pS at r; omega)
theorem PS_b (g : Int → Int) {n : Nat} (hn : n ≤ 24) (x y : Int) : 0 ≤ PS g n x y ∧ PS g n x y ≤ 576 := pr_b _ hn hn
theorem PX_b (g : Int → Int) {n : Nat} (hn : n ≤ 24) (x y : Int) : 0 ≤ PX g n x y ∧ PX g n x y ≤ 576 := pr_b _ hn hn
/-- one heap more: B the best for the heaps so far, S the pairs within a span -/
def mnH (B : Int → Int) (S : Int → Int → Int) (b : Int) (m : Nat) : Int := fld (fun v j => min v (B j + S (j + 1) b)) (B b) m
theorem mnH_s (B : Int → Int) (S : Int → Int → Int) (b : Int) {i : Int} (h : 0 ≤ i) : mnH B S b (i + 1).toNat = min (mnH B S b i.toNat) (B i + S (i + 1) b) := fld_s _ _ h
theorem mnH_b {B : Int → Int} {S : Int → Int → Int} {b : Int} (hB : ∀ q : Int, 0 ≤ q → q ≤ b → 0 ≤ B q ∧ B q ≤ 600) (hS : ∀ q : Int, 0 ≤ q → q ≤ b → 0 ≤ S q b ∧ S q b ≤ 600) (hb : 0 ≤ b) : ∀ m : Nat, (m : Int) ≤ b → 0 ≤ mnH B S b m ∧ mnH B S b m ≤ 600
  | 0, _ => hB b hb (by omega)
  | m + 1, h => by
    have h1 := mnH_b hB hS hb m (by omega)
    have h2 := hB m (by omega) (by omega)
    have h3 := hS (m + 1) (by omega) (by omega)
    have e : mnH B S b (m + 1) = min (mnH B S b m) (B m + S (m + 1) b) := rfl
    rw [e]
    omega
/-- the best cut into at most h heaps for the ranks up to b -/
noncomputable def bcv (g : Int → Int) (n : Nat) : Nat → Int → Int
  | 0, b => PS g n 0 b
  | h + 1, b => mnH (bcv g n h) (PS g n) b b.toNat
theorem bcv_b (g : Int → Int) {n : Nat} (hn : n ≤ 24) : ∀ (h : Nat) (b : Int), 0 ≤ b → 0 ≤ bcv g n h b ∧ bcv g n h b ≤ 600
  | 0, b, _ => by have := PS_b g hn 0 b; unfold bcv; omega
  | h + 1, b, hb => mnH_b (fun q q0 q1 => bcv_b g hn h q q0) (fun q q0 q1 => by have := PS_b g hn q b; omega) hb _ (by omega)
/-- the table's cells: how many ranks, which -/
def HpC (I : Mm) : Prop := (0 ≤ I 18 1 ∧ I 18 1 ≤ 24) ∧ ∀ q : Int, 0 ≤ q → q < I 18 1 → 0 ≤ I 19 q ∧ I 19 q ≤ 31
