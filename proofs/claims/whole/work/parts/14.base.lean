/-! ===== helpers of the walks ===== -/
def catok : List (Value × Bool) → Prop
  | [] => True
  | p :: r => p.1.category = (if p.2 = true then 2 else 1) ∧ catok r
def lvq (Ar : List (Value × Bool)) (n : Nat) : List (Option Value) := (Ar.flatMap fun p => if p.2 = true then [some p.1, none] else [some p.1]) ++ List.replicate (n - (Ar.flatMap fun p => if p.2 = true then [0, 0] else [0]).length) none
theorem catok_eq : ∀ {Ar : List (Value × Bool)}, catok Ar → lvf (Ar.map (·.1)) = (Ar.flatMap fun p => if p.2 = true then [some p.1, none] else [some p.1]) ∧ (lg_sl (Ar.map (·.1))).length = (Ar.flatMap fun p => if p.2 = true then [0, 0] else [0]).length
  | [], _ => ⟨rfl, rfl⟩
  | (v, b) :: r, h => by
    obtain ⟨h1, h2⟩ := catok_eq h.2
    have hv := h.1
    unfold lvf at h1 ⊢
    unfold lg_sl at h2 ⊢
    rw [List.map_cons, List.flatMap_cons, List.flatMap_cons, List.flatMap_cons, List.flatMap_cons, h1]
    cases b with
    | true =>
      have hv2 : v.category = 2 := hv
      simp [hv2, h2]
    | false =>
      have hv1 : v.category = 1 := hv
      simp [hv1, h2]
theorem Cn.ofA {l : Launch} {d : Dd} {z : Nat} {y : MethodName} {cc : ByteArray} {nL : Nat} {ret : Option FieldType} {fr lo mc ms : Nat} {N : Int} {I : Mm} {Po : Pst} (Ar : List (Value × Bool)) (L : List (Option Value)) (own : String)
    (hy : plainName y.cls = true) (ho : y.cls = own) (hc : catok Ar) (hn : (Ar.flatMap fun p => if p.2 = true then [0, 0] else [0]).length ≤ nL) (hL : lvq Ar nL = L)
    (body : ∀ x : Cx, xd x = d → xl x = l → OK x z own cc nL ret fr lo mc ms → (y.name = "<init>" → (xt x).name = "<init>") → V x z Po N I 0 0 0 L []) : Cn l d z y cc nL ret fr lo mc ms (Ar.map (·.1)) N I Po := by
  obtain ⟨h1, h2⟩ := catok_eq hc
  refine Cn.ofV hy ho (by rw [h2]; exact hn) ?_ body
  unfold lv0
  rw [h1, h2]
  exact hL
/-- a choice, a boolean -/
noncomputable def cif {α : Type} (p : Prop) (a b : α) : α := @ite α p (Classical.propDecidable p) a b
theorem cif_t {α : Type} {p : Prop} {a b : α} (h : p) : cif p a b = a := by unfold cif; rw [if_pos h]
theorem cif_f {α : Type} {p : Prop} {a b : α} (h : ¬ p) : cif p a b = b := by unfold cif; rw [if_neg h]
theorem cif01 (p : Prop) : cif p (1 : Int) 0 = 0 ∨ cif p (1 : Int) 0 = 1 := by
  by_cases h : p
  · exact Or.inr (cif_t h)
  · exact Or.inl (cif_f h)
theorem cif_iff {α : Type} {p q : Prop} {a b : α} (h : p ↔ q) : cif p a b = cif q a b := by
  by_cases hp : p
  · rw [cif_t hp, cif_t (h.mp hp)]
  · rw [cif_f hp, cif_f (fun q => hp (h.mpr q))]
noncomputable abbrev vB (p : Prop) : Value := vI (cif p 1 0)
theorem vB_t {p : Prop} (h : p) : vB p = vI 1 := by unfold vB; rw [cif_t h]
theorem vB_f {p : Prop} (h : ¬ p) : vB p = vI 0 := by unfold vB; rw [cif_f h]
theorem vB_iff {p q : Prop} (h : p ↔ q) : vB p = vB q := by unfold vB; rw [cif_iff h]
/-- the places that never change, by cell: the references of the fixed cells, the streams' numbers -/
def fxL : List (List (Nat × Int)) := [
  [(0, 1), (1, 2), (2, 3), (4, 4), (5, 6), (6, 7), (7, 9), (8, 11), (9, 18), (10, 22)],
  [(0, 25), (1, 27), (2, 29), (3, 31), (4, 33), (5, 35), (6, 37), (7, 39)],
  [(0, 41), (1, 43), (2, 45), (3, 47)],
  [], [(0, 5)], [], [], [(0, 8)], [], [(0, 10)], [], [(0, 12), (1, 17)], [(0, 13), (1, 15), (2, 7), (3, 9)], [(0, 14)], [], [(0, 16)], [], [], [(0, 19), (2, 20), (3, 21)], [], [], [], [(0, 23), (2, 24)], [], [],
  [(0, 0), (1, 26)], [], [(0, 1), (1, 28)], [], [(0, 2), (1, 30)], [], [(0, 3), (1, 32)], [], [(0, 4), (1, 34)], [], [(0, 5), (1, 36)], [], [(0, 6), (1, 38)], [], [(0, 7), (1, 40)], [],
  [(0, 42)], [], [(0, 44)], [], [(0, 46)], [], [(0, 48)], [],
  [(0, 50), (1, 51), (2, 52), (3, 53), (4, 54), (5, 55), (10, 56), (14, 57), (15, 58), (16, 59), (17, 60), (18, 61), (19, 62), (22, 63), (23, 64), (24, 65), (25, 66)]]
def fxA (a : Int) : List (Nat × Int) := if a < 0 then [] else fxL.getD a.toNat []
def fx (a k : Int) : Option Int := ((fxA a).find? (fun q => ((q.1 : Int) == k))).map (·.2)
theorem up_def (I : Mm) (a k v a' k' : Int) : up I a k v a' k' = if a' = a ∧ k' = k then v else I a' k' := rfl
/-- fixed places as they are; every int an int; the rules' weights small -/
def Fx (I : Mm) : Prop := (∀ a k v : Int, fx a k = some v → I a k = v) ∧ (∀ a k : Int, -2147483648 ≤ I a k ∧ I a k ≤ 2147483647) ∧ ∀ a k : Int, a = 57 ∨ a = 8 ∨ a = 10 → -600 ≤ I a k ∧ I a k ≤ 600
theorem Fx.up {I : Mm} (h : Fx I) {a k v : Int} (hf : fx a k = none) (hv : -2147483648 ≤ v ∧ v ≤ 2147483647) (hw : (a ≠ 57 ∧ a ≠ 8 ∧ a ≠ 10) ∨ (-600 ≤ v ∧ v ≤ 600)) : Fx (up I a k v) := by
  refine ⟨fun a' k' v' he => ?_, fun a' k' => ?_, fun a' k' ha' => ?_⟩
  · rw [up_n]
    · exact h.1 a' k' v' he
    · by_cases h1 : a' = a
      · right
        intro h2
        subst h1; subst h2
        rw [hf] at he
        cases he
      · exact Or.inl h1
  · rw [up_def]
    split
    · exact hv
    · exact h.2.1 a' k'
  · rw [up_def]
    split
    · rename_i hh
      rcases hw with hw | hw
      · omega
      · exact hw
    · exact h.2.2 a' k' ha'
theorem fx_none {a : Int} (h : fxA a = []) (k : Int) : fx a k = none := by
  unfold fx
  rw [h]
  rfl
theorem fx_word {a : Int} (h : 67 ≤ a) (k : Int) : fx a k = none := by
  refine fx_none ?_ k
  unfold fxA
  rw [if_neg (by omega), List.getD_eq_getElem?_getD, List.getElem?_eq_none]
  · rfl
  · show fxL.length ≤ a.toNat
    have : fxL.length = 50 := rfl
    omega
section VX
variable {x : Cx} {z : Nat} {own : String} {cc : ByteArray} {nL : Nat} {ret : Option FieldType} {fr lo mc ms : Nat} {Po : Pst} {N : Int} {I : Mm} {k n pc : Nat} {L : List (Option Value)} {st : List Value}
/-- a reference that is known -/
theorem V_getRe (hx : OK x z own cc nL ret fr lo mc ms) {idx ci f : Nat} {a b : Int} (fl : FL own idx ci f) (hd : decode cc pc = .ok (.getfield idx, 3)) (ht : isI (fty ci f) = false) (ha : shk N a (0, ci)) (he : I a f = b) (kk : V x z Po N I k n (pc + 3) L (vR z b :: st)) : V x z Po N I k n pc L (vR z a :: st) :=
  V_getR hx fl hd ht ha (by rw [he]; exact kk)
theorem V_ifB_eq (hx : OK x z own cc nL ret fr lo mc ms) {p : Prop} {off : Int} {tgt : Nat} (hd : decode cc pc = .ok (.ifCond .eq off, 3)) (ht : (pc : Int) + off = (tgt : Int)) (kt : ¬ p → V x z Po N I k n tgt L st) (kf : p → V x z Po N I k n (pc + 3) L st) : V x z Po N I k n pc L (vI (cif p 1 0) :: st) := by
  by_cases hp : p
  · rw [cif_t hp]
    exact V_if_eq hx hd ht (by omega) (fun h => by omega) (fun _ => kf hp)
  · rw [cif_f hp]
    exact V_if_eq hx hd ht (by omega) (fun _ => kt hp) (fun h => absurd rfl h)
theorem V_ifB_ne (hx : OK x z own cc nL ret fr lo mc ms) {p : Prop} {off : Int} {tgt : Nat} (hd : decode cc pc = .ok (.ifCond .ne off, 3)) (ht : (pc : Int) + off = (tgt : Int)) (kt : p → V x z Po N I k n tgt L st) (kf : ¬ p → V x z Po N I k n (pc + 3) L st) : V x z Po N I k n pc L (vI (cif p 1 0) :: st) := by
  by_cases hp : p
  · rw [cif_t hp]
    exact V_if_ne hx hd ht (by omega) (fun _ => kt hp) (fun h => by omega)
  · rw [cif_f hp]
    exact V_if_ne hx hd ht (by omega) (fun h => absurd rfl h) (fun _ => kf hp)
theorem V_lif_lt (hx : OK x z own cc nL ret fr lo mc ms) {a b off : Int} {tgt : Nat} (hd : decode cc pc = .ok (.lcmp, 1)) (hd2 : decode cc (pc + 1) = .ok (.ifCond .lt off, 3)) (ht : ((pc + 1 : Nat) : Int) + off = (tgt : Int)) (ha : -9223372036854775808 ≤ a ∧ a ≤ 9223372036854775807) (hb : -9223372036854775808 ≤ b ∧ b ≤ 9223372036854775807) (kt : a < b → V x z Po N I k n tgt L st) (kf : b ≤ a → V x z Po N I k n (pc + 4) L st) : V x z Po N I k n pc L (vL b :: vL a :: st) := by
  refine V_lcmp hx hd ha hb ?_
  refine V_if_lt hx hd2 ht (by unfold c3; split <;> (try split) <;> omega) (fun h => kt ?_) (fun h => kf ?_) <;> unfold c3 at h <;> split at h <;> (try split at h) <;> omega
theorem V_lif_ge (hx : OK x z own cc nL ret fr lo mc ms) {a b off : Int} {tgt : Nat} (hd : decode cc pc = .ok (.lcmp, 1)) (hd2 : decode cc (pc + 1) = .ok (.ifCond .ge off, 3)) (ht : ((pc + 1 : Nat) : Int) + off = (tgt : Int)) (ha : -9223372036854775808 ≤ a ∧ a ≤ 9223372036854775807) (hb : -9223372036854775808 ≤ b ∧ b ≤ 9223372036854775807) (kt : b ≤ a → V x z Po N I k n tgt L st) (kf : a < b → V x z Po N I k n (pc + 4) L st) : V x z Po N I k n pc L (vL b :: vL a :: st) := by
  refine V_lcmp hx hd ha hb ?_
  refine V_if_ge hx hd2 ht (by unfold c3; split <;> (try split) <;> omega) (fun h => kt ?_) (fun h => kf ?_) <;> unfold c3 at h <;> split at h <;> (try split at h) <;> omega
theorem V_lif_gt (hx : OK x z own cc nL ret fr lo mc ms) {a b off : Int} {tgt : Nat} (hd : decode cc pc = .ok (.lcmp, 1)) (hd2 : decode cc (pc + 1) = .ok (.ifCond .gt off, 3)) (ht : ((pc + 1 : Nat) : Int) + off = (tgt : Int)) (ha : -9223372036854775808 ≤ a ∧ a ≤ 9223372036854775807) (hb : -9223372036854775808 ≤ b ∧ b ≤ 9223372036854775807) (kt : b < a → V x z Po N I k n tgt L st) (kf : a ≤ b → V x z Po N I k n (pc + 4) L st) : V x z Po N I k n pc L (vL b :: vL a :: st) := by
  refine V_lcmp hx hd ha hb ?_
  refine V_if_gt hx hd2 ht (by unfold c3; split <;> (try split) <;> omega) (fun h => kt ?_) (fun h => kf ?_) <;> unfold c3 at h <;> split at h <;> (try split at h) <;> omega
theorem V_lif_le (hx : OK x z own cc nL ret fr lo mc ms) {a b off : Int} {tgt : Nat} (hd : decode cc pc = .ok (.lcmp, 1)) (hd2 : decode cc (pc + 1) = .ok (.ifCond .le off, 3)) (ht : ((pc + 1 : Nat) : Int) + off = (tgt : Int)) (ha : -9223372036854775808 ≤ a ∧ a ≤ 9223372036854775807) (hb : -9223372036854775808 ≤ b ∧ b ≤ 9223372036854775807) (kt : a ≤ b → V x z Po N I k n tgt L st) (kf : b < a → V x z Po N I k n (pc + 4) L st) : V x z Po N I k n pc L (vL b :: vL a :: st) := by
  refine V_lcmp hx hd ha hb ?_
  refine V_if_le hx hd2 ht (by unfold c3; split <;> (try split) <;> omega) (fun h => kt ?_) (fun h => kf ?_) <;> unfold c3 at h <;> split at h <;> (try split at h) <;> omega
theorem V_lif_ne (hx : OK x z own cc nL ret fr lo mc ms) {a b off : Int} {tgt : Nat} (hd : decode cc pc = .ok (.lcmp, 1)) (hd2 : decode cc (pc + 1) = .ok (.ifCond .ne off, 3)) (ht : ((pc + 1 : Nat) : Int) + off = (tgt : Int)) (ha : -9223372036854775808 ≤ a ∧ a ≤ 9223372036854775807) (hb : -9223372036854775808 ≤ b ∧ b ≤ 9223372036854775807) (kt : a ≠ b → V x z Po N I k n tgt L st) (kf : a = b → V x z Po N I k n (pc + 4) L st) : V x z Po N I k n pc L (vL b :: vL a :: st) := by
  refine V_lcmp hx hd ha hb ?_
  refine V_if_ne hx hd2 ht (by unfold c3; split <;> (try split) <;> omega) (fun h => kt ?_) (fun h => kf ?_) <;> unfold c3 at h <;> split at h <;> (try split at h) <;> omega
theorem V_lif_eq (hx : OK x z own cc nL ret fr lo mc ms) {a b off : Int} {tgt : Nat} (hd : decode cc pc = .ok (.lcmp, 1)) (hd2 : decode cc (pc + 1) = .ok (.ifCond .eq off, 3)) (ht : ((pc + 1 : Nat) : Int) + off = (tgt : Int)) (ha : -9223372036854775808 ≤ a ∧ a ≤ 9223372036854775807) (hb : -9223372036854775808 ≤ b ∧ b ≤ 9223372036854775807) (kt : a = b → V x z Po N I k n tgt L st) (kf : a ≠ b → V x z Po N I k n (pc + 4) L st) : V x z Po N I k n pc L (vL b :: vL a :: st) := by
  refine V_lcmp hx hd ha hb ?_
  refine V_if_eq hx hd2 ht (by unfold c3; split <;> (try split) <;> omega) (fun h => kt ?_) (fun h => kf ?_) <;> unfold c3 at h <;> split at h <;> (try split at h) <;> omega
theorem V_getRg (g : Int) (hx : OK x z own cc nL ret fr lo mc ms) {idx ci f : Nat} {a : Int} (fl : FL own idx ci f) (hd : decode cc pc = .ok (.getfield idx, 3)) (hg : (f : Int) = g) (ht : isI (fty ci f) = false) (ha : shk N a (0, ci)) (kk : V x z Po N I k n (pc + 3) L (vR z (I a g) :: st)) : V x z Po N I k n pc L (vR z a :: st) := by
  subst hg
  exact V_getR hx fl hd ht ha kk
theorem V_putIFg (g : Int) (hx : OK x z own cc nL ret fr lo mc ms) {idx ci f : Nat} {a v : Int} (fl : FL own idx ci f) (hd : decode cc pc = .ok (.putfield idx, 3)) (hg : (f : Int) = g) (ht : isI (fty ci f) = true) (hfin : ∀ r : vw_C, kcls[ci]? = some r → (r.2.1 f).2.2.2 = true ∧ (r.2.1 f).1 = own) (hini : (xt x).name = "<init>") (ha : shk N a (0, ci)) (kk : V x z Po N (up I a g v) k n (pc + 3) L st) : V x z Po N I k n pc L (vI v :: vR z a :: st) := by
  subst hg
  exact V_putIF hx fl hd ht hfin hini ha kk
theorem V_putRFg (g : Int) (hx : OK x z own cc nL ret fr lo mc ms) {idx ci f : Nat} {a v : Int} (fl : FL own idx ci f) (hd : decode cc pc = .ok (.putfield idx, 3)) (hg : (f : Int) = g) (ht : (∃ C, fty ci f = .object C) ∨ ∃ t, fty ci f = .array t) (hfin : ∀ r : vw_C, kcls[ci]? = some r → (r.2.1 f).2.2.2 = true ∧ (r.2.1 f).1 = own) (hini : (xt x).name = "<init>") (ha : shk N a (0, ci)) (kk : V x z Po N (up I a g v) k n (pc + 3) L st) : V x z Po N I k n pc L (vR z v :: vR z a :: st) := by
  subst hg
  exact V_putRF hx fl hd ht hfin hini ha kk
/-! rows that bring what is known of the numbers -/
theorem V_getIx (g : Int) (hx : OK x z own cc nL ret fr lo mc ms) (hF : Fx I) {idx ci f : Nat} {a : Int} (fl : FL own idx ci f) (hd : decode cc pc = .ok (.getfield idx, 3)) (hg : (f : Int) = g) (ht : isI (fty ci f) = true) (ha : shk N a (0, ci)) (kk : -2147483648 ≤ I a g ∧ I a g ≤ 2147483647 → V x z Po N I k n (pc + 3) L (vI (I a g) :: st)) : V x z Po N I k n pc L (vR z a :: st) := by
  subst hg
  exact V_getI hx fl hd ht ha (kk (hF.2.1 a f))
theorem V_ialoadx (hx : OK x z own cc nL ret fr lo mc ms) (hF : Fx I) {m : Nat} {a i : Int} (hd : decode cc pc = .ok (.iaload, 1)) (ha : shk N a (1, m)) (hm : m ≤ 2147483647) (hi : 0 ≤ i ∧ i < (m : Int)) (kk : -2147483648 ≤ I a i ∧ I a i ≤ 2147483647 → V x z Po N I k n (pc + 1) L (vI (I a i) :: st)) : V x z Po N I k n pc L (vI i :: vR z a :: st) :=
  V_iaload hx hd ha hm hi (kk (hF.2.1 a i))
theorem V_baloadx (hx : OK x z own cc nL ret fr lo mc ms) (hF : Fx I) {m : Nat} {a i : Int} (hd : decode cc pc = .ok (.baload, 1)) (ha : shk N a (2, m)) (hm : m ≤ 2147483647) (hi : 0 ≤ i ∧ i < (m : Int)) (kk : -2147483648 ≤ I a i ∧ I a i ≤ 2147483647 → V x z Po N I k n (pc + 1) L (vI (I a i) :: st)) : V x z Po N I k n pc L (vI i :: vR z a :: st) :=
  V_baload hx hd ha hm hi (kk (hF.2.1 a i))
theorem V_putIx (g : Int) (hx : OK x z own cc nL ret fr lo mc ms) (hF : Fx I) {idx ci f : Nat} {a v : Int} (fl : FL own idx ci f) (hd : decode cc pc = .ok (.putfield idx, 3)) (hg : (f : Int) = g) (ht : isI (fty ci f) = true) (hfin : ∀ r : vw_C, kcls[ci]? = some r → (r.2.1 f).2.2.2 = false) (ha : shk N a (0, ci)) (hf : fx a g = none) (hv : -2147483648 ≤ v ∧ v ≤ 2147483647) (hw : (a ≠ 57 ∧ a ≠ 8 ∧ a ≠ 10) ∨ (-600 ≤ v ∧ v ≤ 600)) (kk : Fx (up I a g v) → V x z Po N (up I a g v) k n (pc + 3) L st) : V x z Po N I k n pc L (vI v :: vR z a :: st) := by
  subst hg
  exact V_putI hx fl hd ht hfin ha (kk (hF.up hf hv hw))
theorem V_putRx (g : Int) (hx : OK x z own cc nL ret fr lo mc ms) (hF : Fx I) {idx ci f : Nat} {a v : Int} (fl : FL own idx ci f) (hd : decode cc pc = .ok (.putfield idx, 3)) (hg : (f : Int) = g) (ht : (∃ C, fty ci f = .object C) ∨ ∃ t, fty ci f = .array t) (hfin : ∀ r : vw_C, kcls[ci]? = some r → (r.2.1 f).2.2.2 = false) (ha : shk N a (0, ci)) (hf : fx a g = none) (hv : -2147483648 ≤ v ∧ v ≤ 2147483647) (hw : (a ≠ 57 ∧ a ≠ 8 ∧ a ≠ 10) ∨ (-600 ≤ v ∧ v ≤ 600)) (kk : Fx (up I a g v) → V x z Po N (up I a g v) k n (pc + 3) L st) : V x z Po N I k n pc L (vR z v :: vR z a :: st) := by
  subst hg
  exact V_putR hx fl hd ht hfin ha (kk (hF.up hf hv hw))
theorem V_iastorex (hx : OK x z own cc nL ret fr lo mc ms) (hF : Fx I) {m : Nat} {a i v : Int} (hd : decode cc pc = .ok (.iastore, 1)) (ha : shk N a (1, m)) (hm : m ≤ 2147483647) (hi : 0 ≤ i ∧ i < (m : Int)) (hf : fx a i = none) (hv : -2147483648 ≤ v ∧ v ≤ 2147483647) (hw : (a ≠ 57 ∧ a ≠ 8 ∧ a ≠ 10) ∨ (-600 ≤ v ∧ v ≤ 600)) (kk : Fx (up I a i v) → V x z Po N (up I a i v) k n (pc + 1) L st) : V x z Po N I k n pc L (vI v :: vI i :: vR z a :: st) :=
  V_iastore hx hd ha hm hi (kk (hF.up hf hv hw))
theorem V_bastorex (hx : OK x z own cc nL ret fr lo mc ms) (hF : Fx I) {m : Nat} {a i v : Int} (hd : decode cc pc = .ok (.bastore, 1)) (ha : shk N a (2, m)) (hm : m ≤ 2147483647) (hi : 0 ≤ i ∧ i < (m : Int)) (hf : fx a i = none) (hv : -128 ≤ v ∧ v ≤ 127) (kk : Fx (up I a i v) → V x z Po N (up I a i v) k n (pc + 1) L st) : V x z Po N I k n pc L (vI v :: vI i :: vR z a :: st) :=
  V_bastore hx hd ha hm hi hv (kk (hF.up hf (by omega) (Or.inr (by omega))))
theorem V_aastorex (hx : OK x z own cc nL ret fr lo mc ms) (hF : Fx I) {m s : Nat} {a i v : Int} (hd : decode cc pc = .ok (.aastore, 1)) (ha : shk N a (s, m)) (hs : refK s) (hm : m ≤ 2147483647) (hi : 0 ≤ i ∧ i < (m : Int)) (hv : v < 0 ∨ shk N v (0, elC s)) (hf : fx a i = none) (hv2 : -2147483648 ≤ v ∧ v ≤ 2147483647) (hw : (a ≠ 57 ∧ a ≠ 8 ∧ a ≠ 10) ∨ (-600 ≤ v ∧ v ≤ 600)) (kk : Fx (up I a i v) → V x z Po N (up I a i v) k n (pc + 1) L st) : V x z Po N I k n pc L (vR z v :: vI i :: vR z a :: st) :=
  V_aastore hx hd ha hs hm hi hv (kk (hF.up hf hv2 hw))
/-- nothing changed, an int comes -/
def pq (a : Int) (N : Int) (I : Mm) : Pst := fun r N' I' => r = some (vI a) ∧ N' = N ∧ I' = I ∧ -2147483648 ≤ a ∧ a ≤ 2147483647
theorem V_v0Q {y : MethodName} {cy : ByteArray} {nLy : Nat} {rety : Option FieldType} {fr' lo' mc' ms' idx ci : Nat} {a : Int} {rest : List Value} {l : Launch} {d : Dd} {w : Int} (hx : OK x z own cc nL ret fr lo mc ms) (el : xl x = l) (ed : xd x = d) (hM : Cn l d z y cy nLy rety fr' lo' mc' ms' (vR z a :: []) N I (pq w N I)) (hy : MV y cy nLy rety 0) (hl : ML own idx y) (hd : decode cc pc = .ok (.invokevirtual idx, 3)) (hC : ∃ r, kcls[ci]? = some r ∧ r.1 = y.cls) (ha : shk N a (0, ci)) (hR : fr' + 1 ≤ fr ∧ 19 + nLy + lo' ≤ lo) (hf : k + mc' ≤ mc ∧ n + ms' ≤ ms) (hLn : L.length = nL) (hw : (rest.map fun v => v.category).sum ≤ 8) (kk : -2147483648 ≤ w ∧ w ≤ 2147483647 → V x z Po N I (k + mc') (n + ms') (pc + 3) L (vI w :: rest)) : V x z Po N I k n pc L (vR z a :: rest) := V_invV [] hx el ed hM hy hl hd hC ha hR hf hLn rfl hw (by rintro v N' I' ⟨rfl, rfl, rfl, h⟩; exact kk h)
theorem V_v1Q {y : MethodName} {cy : ByteArray} {nLy : Nat} {rety : Option FieldType} {fr' lo' mc' ms' idx ci : Nat} {a : Int} {v0 : Value} {rest : List Value} {l : Launch} {d : Dd} {w : Int} (hx : OK x z own cc nL ret fr lo mc ms) (el : xl x = l) (ed : xd x = d) (hM : Cn l d z y cy nLy rety fr' lo' mc' ms' (vR z a :: [v0]) N I (pq w N I)) (hy : MV y cy nLy rety 1) (hl : ML own idx y) (hd : decode cc pc = .ok (.invokevirtual idx, 3)) (hC : ∃ r, kcls[ci]? = some r ∧ r.1 = y.cls) (ha : shk N a (0, ci)) (hR : fr' + 1 ≤ fr ∧ 19 + nLy + lo' ≤ lo) (hf : k + mc' ≤ mc ∧ n + ms' ≤ ms) (hLn : L.length = nL) (hw : (rest.map fun v => v.category).sum ≤ 8) (kk : -2147483648 ≤ w ∧ w ≤ 2147483647 → V x z Po N I (k + mc') (n + ms') (pc + 3) L (vI w :: rest)) : V x z Po N I k n pc L (v0 :: vR z a :: rest) := V_invV [v0] hx el ed hM hy hl hd hC ha hR hf hLn rfl hw (by rintro v N' I' ⟨rfl, rfl, rfl, h⟩; exact kk h)
theorem V_v2Q {y : MethodName} {cy : ByteArray} {nLy : Nat} {rety : Option FieldType} {fr' lo' mc' ms' idx ci : Nat} {a : Int} {v0 v1 : Value} {rest : List Value} {l : Launch} {d : Dd} {w : Int} (hx : OK x z own cc nL ret fr lo mc ms) (el : xl x = l) (ed : xd x = d) (hM : Cn l d z y cy nLy rety fr' lo' mc' ms' (vR z a :: [v0, v1]) N I (pq w N I)) (hy : MV y cy nLy rety 2) (hl : ML own idx y) (hd : decode cc pc = .ok (.invokevirtual idx, 3)) (hC : ∃ r, kcls[ci]? = some r ∧ r.1 = y.cls) (ha : shk N a (0, ci)) (hR : fr' + 1 ≤ fr ∧ 19 + nLy + lo' ≤ lo) (hf : k + mc' ≤ mc ∧ n + ms' ≤ ms) (hLn : L.length = nL) (hw : (rest.map fun v => v.category).sum ≤ 8) (kk : -2147483648 ≤ w ∧ w ≤ 2147483647 → V x z Po N I (k + mc') (n + ms') (pc + 3) L (vI w :: rest)) : V x z Po N I k n pc L (v1 :: v0 :: vR z a :: rest) := V_invV [v0, v1] hx el ed hM hy hl hd hC ha hR hf hLn rfl hw (by rintro v N' I' ⟨rfl, rfl, rfl, h⟩; exact kk h)
theorem V_v3Q {y : MethodName} {cy : ByteArray} {nLy : Nat} {rety : Option FieldType} {fr' lo' mc' ms' idx ci : Nat} {a : Int} {v0 v1 v2 : Value} {rest : List Value} {l : Launch} {d : Dd} {w : Int} (hx : OK x z own cc nL ret fr lo mc ms) (el : xl x = l) (ed : xd x = d) (hM : Cn l d z y cy nLy rety fr' lo' mc' ms' (vR z a :: [v0, v1, v2]) N I (pq w N I)) (hy : MV y cy nLy rety 3) (hl : ML own idx y) (hd : decode cc pc = .ok (.invokevirtual idx, 3)) (hC : ∃ r, kcls[ci]? = some r ∧ r.1 = y.cls) (ha : shk N a (0, ci)) (hR : fr' + 1 ≤ fr ∧ 19 + nLy + lo' ≤ lo) (hf : k + mc' ≤ mc ∧ n + ms' ≤ ms) (hLn : L.length = nL) (hw : (rest.map fun v => v.category).sum ≤ 8) (kk : -2147483648 ≤ w ∧ w ≤ 2147483647 → V x z Po N I (k + mc') (n + ms') (pc + 3) L (vI w :: rest)) : V x z Po N I k n pc L (v2 :: v1 :: v0 :: vR z a :: rest) := V_invV [v0, v1, v2] hx el ed hM hy hl hd hC ha hR hf hLn rfl hw (by rintro v N' I' ⟨rfl, rfl, rfl, h⟩; exact kk h)
theorem V_v4Q {y : MethodName} {cy : ByteArray} {nLy : Nat} {rety : Option FieldType} {fr' lo' mc' ms' idx ci : Nat} {a : Int} {v0 v1 v2 v3 : Value} {rest : List Value} {l : Launch} {d : Dd} {w : Int} (hx : OK x z own cc nL ret fr lo mc ms) (el : xl x = l) (ed : xd x = d) (hM : Cn l d z y cy nLy rety fr' lo' mc' ms' (vR z a :: [v0, v1, v2, v3]) N I (pq w N I)) (hy : MV y cy nLy rety 4) (hl : ML own idx y) (hd : decode cc pc = .ok (.invokevirtual idx, 3)) (hC : ∃ r, kcls[ci]? = some r ∧ r.1 = y.cls) (ha : shk N a (0, ci)) (hR : fr' + 1 ≤ fr ∧ 19 + nLy + lo' ≤ lo) (hf : k + mc' ≤ mc ∧ n + ms' ≤ ms) (hLn : L.length = nL) (hw : (rest.map fun v => v.category).sum ≤ 8) (kk : -2147483648 ≤ w ∧ w ≤ 2147483647 → V x z Po N I (k + mc') (n + ms') (pc + 3) L (vI w :: rest)) : V x z Po N I k n pc L (v3 :: v2 :: v1 :: v0 :: vR z a :: rest) := V_invV [v0, v1, v2, v3] hx el ed hM hy hl hd hC ha hR hf hLn rfl hw (by rintro v N' I' ⟨rfl, rfl, rfl, h⟩; exact kk h)
theorem V_v5Q {y : MethodName} {cy : ByteArray} {nLy : Nat} {rety : Option FieldType} {fr' lo' mc' ms' idx ci : Nat} {a : Int} {v0 v1 v2 v3 v4 : Value} {rest : List Value} {l : Launch} {d : Dd} {w : Int} (hx : OK x z own cc nL ret fr lo mc ms) (el : xl x = l) (ed : xd x = d) (hM : Cn l d z y cy nLy rety fr' lo' mc' ms' (vR z a :: [v0, v1, v2, v3, v4]) N I (pq w N I)) (hy : MV y cy nLy rety 5) (hl : ML own idx y) (hd : decode cc pc = .ok (.invokevirtual idx, 3)) (hC : ∃ r, kcls[ci]? = some r ∧ r.1 = y.cls) (ha : shk N a (0, ci)) (hR : fr' + 1 ≤ fr ∧ 19 + nLy + lo' ≤ lo) (hf : k + mc' ≤ mc ∧ n + ms' ≤ ms) (hLn : L.length = nL) (hw : (rest.map fun v => v.category).sum ≤ 8) (kk : -2147483648 ≤ w ∧ w ≤ 2147483647 → V x z Po N I (k + mc') (n + ms') (pc + 3) L (vI w :: rest)) : V x z Po N I k n pc L (v4 :: v3 :: v2 :: v1 :: v0 :: vR z a :: rest) := V_invV [v0, v1, v2, v3, v4] hx el ed hM hy hl hd hC ha hR hf hLn rfl hw (by rintro v N' I' ⟨rfl, rfl, rfl, h⟩; exact kk h)
theorem V_s0Q {y : MethodName} {cy : ByteArray} {nLy : Nat} {rety : Option FieldType} {fr' lo' mc' ms' idx : Nat} {rest : List Value} {l : Launch} {d : Dd} {w : Int} (hx : OK x z own cc nL ret fr lo mc ms) (el : xl x = l) (ed : xd x = d) (hM : Cn l d z y cy nLy rety fr' lo' mc' ms' [] N I (pq w N I)) (hy : MS y cy nLy rety 0) (hl : ML own idx y) (hd : decode cc pc = .ok (.invokestatic idx, 3)) (hR : fr' + 1 ≤ fr ∧ 19 + nLy + lo' ≤ lo) (hf : k + mc' ≤ mc ∧ n + ms' ≤ ms) (hLn : L.length = nL) (hw : (rest.map fun v => v.category).sum ≤ 8) (kk : -2147483648 ≤ w ∧ w ≤ 2147483647 → V x z Po N I (k + mc') (n + ms') (pc + 3) L (vI w :: rest)) : V x z Po N I k n pc L (rest) := V_invS [] hx el ed hM hy hl hd  hR hf hLn rfl hw (by rintro v N' I' ⟨rfl, rfl, rfl, h⟩; exact kk h)
theorem V_s1Q {y : MethodName} {cy : ByteArray} {nLy : Nat} {rety : Option FieldType} {fr' lo' mc' ms' idx : Nat} {v0 : Value} {rest : List Value} {l : Launch} {d : Dd} {w : Int} (hx : OK x z own cc nL ret fr lo mc ms) (el : xl x = l) (ed : xd x = d) (hM : Cn l d z y cy nLy rety fr' lo' mc' ms' [v0] N I (pq w N I)) (hy : MS y cy nLy rety 1) (hl : ML own idx y) (hd : decode cc pc = .ok (.invokestatic idx, 3)) (hR : fr' + 1 ≤ fr ∧ 19 + nLy + lo' ≤ lo) (hf : k + mc' ≤ mc ∧ n + ms' ≤ ms) (hLn : L.length = nL) (hw : (rest.map fun v => v.category).sum ≤ 8) (kk : -2147483648 ≤ w ∧ w ≤ 2147483647 → V x z Po N I (k + mc') (n + ms') (pc + 3) L (vI w :: rest)) : V x z Po N I k n pc L (v0 :: rest) := V_invS [v0] hx el ed hM hy hl hd  hR hf hLn rfl hw (by rintro v N' I' ⟨rfl, rfl, rfl, h⟩; exact kk h)
theorem V_s2Q {y : MethodName} {cy : ByteArray} {nLy : Nat} {rety : Option FieldType} {fr' lo' mc' ms' idx : Nat} {v0 v1 : Value} {rest : List Value} {l : Launch} {d : Dd} {w : Int} (hx : OK x z own cc nL ret fr lo mc ms) (el : xl x = l) (ed : xd x = d) (hM : Cn l d z y cy nLy rety fr' lo' mc' ms' [v0, v1] N I (pq w N I)) (hy : MS y cy nLy rety 2) (hl : ML own idx y) (hd : decode cc pc = .ok (.invokestatic idx, 3)) (hR : fr' + 1 ≤ fr ∧ 19 + nLy + lo' ≤ lo) (hf : k + mc' ≤ mc ∧ n + ms' ≤ ms) (hLn : L.length = nL) (hw : (rest.map fun v => v.category).sum ≤ 8) (kk : -2147483648 ≤ w ∧ w ≤ 2147483647 → V x z Po N I (k + mc') (n + ms') (pc + 3) L (vI w :: rest)) : V x z Po N I k n pc L (v1 :: v0 :: rest) := V_invS [v0, v1] hx el ed hM hy hl hd  hR hf hLn rfl hw (by rintro v N' I' ⟨rfl, rfl, rfl, h⟩; exact kk h)
theorem V_s3Q {y : MethodName} {cy : ByteArray} {nLy : Nat} {rety : Option FieldType} {fr' lo' mc' ms' idx : Nat} {v0 v1 v2 : Value} {rest : List Value} {l : Launch} {d : Dd} {w : Int} (hx : OK x z own cc nL ret fr lo mc ms) (el : xl x = l) (ed : xd x = d) (hM : Cn l d z y cy nLy rety fr' lo' mc' ms' [v0, v1, v2] N I (pq w N I)) (hy : MS y cy nLy rety 3) (hl : ML own idx y) (hd : decode cc pc = .ok (.invokestatic idx, 3)) (hR : fr' + 1 ≤ fr ∧ 19 + nLy + lo' ≤ lo) (hf : k + mc' ≤ mc ∧ n + ms' ≤ ms) (hLn : L.length = nL) (hw : (rest.map fun v => v.category).sum ≤ 8) (kk : -2147483648 ≤ w ∧ w ≤ 2147483647 → V x z Po N I (k + mc') (n + ms') (pc + 3) L (vI w :: rest)) : V x z Po N I k n pc L (v2 :: v1 :: v0 :: rest) := V_invS [v0, v1, v2] hx el ed hM hy hl hd  hR hf hLn rfl hw (by rintro v N' I' ⟨rfl, rfl, rfl, h⟩; exact kk h)
theorem V_s4Q {y : MethodName} {cy : ByteArray} {nLy : Nat} {rety : Option FieldType} {fr' lo' mc' ms' idx : Nat} {v0 v1 v2 v3 : Value} {rest : List Value} {l : Launch} {d : Dd} {w : Int} (hx : OK x z own cc nL ret fr lo mc ms) (el : xl x = l) (ed : xd x = d) (hM : Cn l d z y cy nLy rety fr' lo' mc' ms' [v0, v1, v2, v3] N I (pq w N I)) (hy : MS y cy nLy rety 4) (hl : ML own idx y) (hd : decode cc pc = .ok (.invokestatic idx, 3)) (hR : fr' + 1 ≤ fr ∧ 19 + nLy + lo' ≤ lo) (hf : k + mc' ≤ mc ∧ n + ms' ≤ ms) (hLn : L.length = nL) (hw : (rest.map fun v => v.category).sum ≤ 8) (kk : -2147483648 ≤ w ∧ w ≤ 2147483647 → V x z Po N I (k + mc') (n + ms') (pc + 3) L (vI w :: rest)) : V x z Po N I k n pc L (v3 :: v2 :: v1 :: v0 :: rest) := V_invS [v0, v1, v2, v3] hx el ed hM hy hl hd  hR hf hLn rfl hw (by rintro v N' I' ⟨rfl, rfl, rfl, h⟩; exact kk h)
theorem V_s5Q {y : MethodName} {cy : ByteArray} {nLy : Nat} {rety : Option FieldType} {fr' lo' mc' ms' idx : Nat} {v0 v1 v2 v3 v4 : Value} {rest : List Value} {l : Launch} {d : Dd} {w : Int} (hx : OK x z own cc nL ret fr lo mc ms) (el : xl x = l) (ed : xd x = d) (hM : Cn l d z y cy nLy rety fr' lo' mc' ms' [v0, v1, v2, v3, v4] N I (pq w N I)) (hy : MS y cy nLy rety 5) (hl : ML own idx y) (hd : decode cc pc = .ok (.invokestatic idx, 3)) (hR : fr' + 1 ≤ fr ∧ 19 + nLy + lo' ≤ lo) (hf : k + mc' ≤ mc ∧ n + ms' ≤ ms) (hLn : L.length = nL) (hw : (rest.map fun v => v.category).sum ≤ 8) (kk : -2147483648 ≤ w ∧ w ≤ 2147483647 → V x z Po N I (k + mc') (n + ms') (pc + 3) L (vI w :: rest)) : V x z Po N I k n pc L (v4 :: v3 :: v2 :: v1 :: v0 :: rest) := V_invS [v0, v1, v2, v3, v4] hx el ed hM hy hl hd  hR hf hLn rfl hw (by rintro v N' I' ⟨rfl, rfl, rfl, h⟩; exact kk h)
/-- nothing changed, a long comes -/
def pk (a : Int) (N : Int) (I : Mm) : Pst := fun r N' I' => r = some (vL a) ∧ N' = N ∧ I' = I ∧ -4611686018427387904 ≤ a ∧ a ≤ 4611686018427387904
theorem V_v0K {y : MethodName} {cy : ByteArray} {nLy : Nat} {rety : Option FieldType} {fr' lo' mc' ms' idx ci : Nat} {a : Int} {rest : List Value} {l : Launch} {d : Dd} {w : Int} (hx : OK x z own cc nL ret fr lo mc ms) (el : xl x = l) (ed : xd x = d) (hM : Cn l d z y cy nLy rety fr' lo' mc' ms' (vR z a :: []) N I (pk w N I)) (hy : MV y cy nLy rety 0) (hl : ML own idx y) (hd : decode cc pc = .ok (.invokevirtual idx, 3)) (hC : ∃ r, kcls[ci]? = some r ∧ r.1 = y.cls) (ha : shk N a (0, ci)) (hR : fr' + 1 ≤ fr ∧ 19 + nLy + lo' ≤ lo) (hf : k + mc' ≤ mc ∧ n + ms' ≤ ms) (hLn : L.length = nL) (hw : (rest.map fun v => v.category).sum ≤ 8) (kk : -4611686018427387904 ≤ w ∧ w ≤ 4611686018427387904 → V x z Po N I (k + mc') (n + ms') (pc + 3) L (vL w :: rest)) : V x z Po N I k n pc L (vR z a :: rest) := V_invV [] hx el ed hM hy hl hd hC ha hR hf hLn rfl hw (by rintro v N' I' ⟨rfl, rfl, rfl, h⟩; exact kk h)
theorem V_v1K {y : MethodName} {cy : ByteArray} {nLy : Nat} {rety : Option FieldType} {fr' lo' mc' ms' idx ci : Nat} {a : Int} {v0 : Value} {rest : List Value} {l : Launch} {d : Dd} {w : Int} (hx : OK x z own cc nL ret fr lo mc ms) (el : xl x = l) (ed : xd x = d) (hM : Cn l d z y cy nLy rety fr' lo' mc' ms' (vR z a :: [v0]) N I (pk w N I)) (hy : MV y cy nLy rety 1) (hl : ML own idx y) (hd : decode cc pc = .ok (.invokevirtual idx, 3)) (hC : ∃ r, kcls[ci]? = some r ∧ r.1 = y.cls) (ha : shk N a (0, ci)) (hR : fr' + 1 ≤ fr ∧ 19 + nLy + lo' ≤ lo) (hf : k + mc' ≤ mc ∧ n + ms' ≤ ms) (hLn : L.length = nL) (hw : (rest.map fun v => v.category).sum ≤ 8) (kk : -4611686018427387904 ≤ w ∧ w ≤ 4611686018427387904 → V x z Po N I (k + mc') (n + ms') (pc + 3) L (vL w :: rest)) : V x z Po N I k n pc L (v0 :: vR z a :: rest) := V_invV [v0] hx el ed hM hy hl hd hC ha hR hf hLn rfl hw (by rintro v N' I' ⟨rfl, rfl, rfl, h⟩; exact kk h)
theorem V_v2K {y : MethodName} {cy : ByteArray} {nLy : Nat} {rety : Option FieldType} {fr' lo' mc' ms' idx ci : Nat} {a : Int} {v0 v1 : Value} {rest : List Value} {l : Launch} {d : Dd} {w : Int} (hx : OK x z own cc nL ret fr lo mc ms) (el : xl x = l) (ed : xd x = d) (hM : Cn l d z y cy nLy rety fr' lo' mc' ms' (vR z a :: [v0, v1]) N I (pk w N I)) (hy : MV y cy nLy rety 2) (hl : ML own idx y) (hd : decode cc pc = .ok (.invokevirtual idx, 3)) (hC : ∃ r, kcls[ci]? = some r ∧ r.1 = y.cls) (ha : shk N a (0, ci)) (hR : fr' + 1 ≤ fr ∧ 19 + nLy + lo' ≤ lo) (hf : k + mc' ≤ mc ∧ n + ms' ≤ ms) (hLn : L.length = nL) (hw : (rest.map fun v => v.category).sum ≤ 8) (kk : -4611686018427387904 ≤ w ∧ w ≤ 4611686018427387904 → V x z Po N I (k + mc') (n + ms') (pc + 3) L (vL w :: rest)) : V x z Po N I k n pc L (v1 :: v0 :: vR z a :: rest) := V_invV [v0, v1] hx el ed hM hy hl hd hC ha hR hf hLn rfl hw (by rintro v N' I' ⟨rfl, rfl, rfl, h⟩; exact kk h)
end VX
/-- folding over 0 .. n - 1 -/
def fld {α : Type} (g : α → Int → α) (a : α) : Nat → α
  | 0 => a
  | n + 1 => g (fld g a n) n
theorem fld_s {α : Type} (g : α → Int → α) (a : α) {i : Int} (h : 0 ≤ i) : fld g a (i + 1).toNat = g (fld g a i.toNat) i := by
  have : (i + 1).toNat = i.toNat + 1 := by omega
  rw [this, fld]
  congr 1
  omega
/-- a counting loop: P i acc is what is to be shown at its head -/
theorem loop_fld {α : Type} (g : α → Int → α) (a0 : α) (m : Int) (hm : 0 ≤ m) (P : Int → α → Prop) (hend : P m (fld g a0 m.toNat)) (hs : ∀ i : Int, 0 ≤ i → i < m → P (i + 1) (g (fld g a0 i.toNat) i) → P i (fld g a0 i.toNat)) : P 0 a0 := by
  have key : ∀ (j : Nat) (i : Int), 0 ≤ i → i ≤ m → (m - i).toNat = j → P i (fld g a0 i.toNat) := by
    intro j
    induction j with
    | zero =>
      intro i h1 h2 h3
      have : i = m := by omega
      subst this
      exact hend
    | succ j ih =>
      intro i h1 h2 h3
      refine hs i h1 (by omega) ?_
      rw [← fld_s g a0 h1]
      exact ih (i + 1) (by omega) (by omega) (by omega)
  exact key m.toNat 0 (by omega) hm (by omega)
/-- a loop from i0 to m by 1, the state any: I: the invariant -/
theorem loop_inv {α : Type} (i0 m : Int) (hm : i0 ≤ m) (J : Int → α → Prop) (P : Int → α → Prop) (hend : ∀ s, J m s → P m s) (hs : ∀ (i : Int) (s : α), i0 ≤ i → i < m → J i s → (∀ s', J (i + 1) s' → P (i + 1) s') → P i s) (s : α) (h0 : J i0 s) : P i0 s := by
  have key : ∀ (j : Nat) (i : Int) (s : α), i0 ≤ i → i ≤ m → (m - i).toNat = j → J i s → P i s := by
    intro j
    induction j with
    | zero =>
      intro i s h1 h2 h3 h4
      have : i = m := by omega
      subst this
      exact hend s h4
    | succ j ih =>
      intro i s h1 h2 h3 h4
      exact hs i s h1 (by omega) h4 (fun s' h' => ih (i + 1) s' (by omega) (by omega) (by omega) h')
  exact key (m - i0).toNat i0 s (Int.le_refl _) hm rfl h0
theorem k0 {N : Int} (h : 67 ≤ N) : shk N 0 (0, 10) := ⟨by decide, by omega, rfl⟩
theorem k1 {N : Int} (h : 67 ≤ N) : shk N 1 (4, 8) := ⟨by decide, by omega, rfl⟩
theorem k2 {N : Int} (h : 67 ≤ N) : shk N 2 (5, 4) := ⟨by decide, by omega, rfl⟩
theorem k3 {N : Int} (h : 67 ≤ N) : shk N 3 (3, 1000) := ⟨by decide, by omega, rfl⟩
theorem k4 {N : Int} (h : 67 ≤ N) : shk N 4 (0, 8) := ⟨by decide, by omega, rfl⟩
theorem k5 {N : Int} (h : 67 ≤ N) : shk N 5 (2, 40) := ⟨by decide, by omega, rfl⟩
theorem k6 {N : Int} (h : 67 ≤ N) : shk N 6 (1, 6) := ⟨by decide, by omega, rfl⟩
theorem k7 {N : Int} (h : 67 ≤ N) : shk N 7 (0, 4) := ⟨by decide, by omega, rfl⟩
theorem k8 {N : Int} (h : 67 ≤ N) : shk N 8 (1, 6) := ⟨by decide, by omega, rfl⟩
theorem k9 {N : Int} (h : 67 ≤ N) : shk N 9 (0, 4) := ⟨by decide, by omega, rfl⟩
theorem k10 {N : Int} (h : 67 ≤ N) : shk N 10 (1, 6) := ⟨by decide, by omega, rfl⟩
theorem k11 {N : Int} (h : 67 ≤ N) : shk N 11 (0, 3) := ⟨by decide, by omega, rfl⟩
theorem k12 {N : Int} (h : 67 ≤ N) : shk N 12 (0, 6) := ⟨by decide, by omega, rfl⟩
theorem k13 {N : Int} (h : 67 ≤ N) : shk N 13 (0, 1) := ⟨by decide, by omega, rfl⟩
theorem k14 {N : Int} (h : 67 ≤ N) : shk N 14 (3, 25) := ⟨by decide, by omega, rfl⟩
theorem k15 {N : Int} (h : 67 ≤ N) : shk N 15 (0, 1) := ⟨by decide, by omega, rfl⟩
theorem k16 {N : Int} (h : 67 ≤ N) : shk N 16 (3, 25) := ⟨by decide, by omega, rfl⟩
theorem k17 {N : Int} (h : 67 ≤ N) : shk N 17 (3, 1000) := ⟨by decide, by omega, rfl⟩
theorem k18 {N : Int} (h : 67 ≤ N) : shk N 18 (0, 0) := ⟨by decide, by omega, rfl⟩
theorem k19 {N : Int} (h : 67 ≤ N) : shk N 19 (1, 24) := ⟨by decide, by omega, rfl⟩
theorem k20 {N : Int} (h : 67 ≤ N) : shk N 20 (1, 1024) := ⟨by decide, by omega, rfl⟩
theorem k21 {N : Int} (h : 67 ≤ N) : shk N 21 (1, 32) := ⟨by decide, by omega, rfl⟩
theorem k22 {N : Int} (h : 67 ≤ N) : shk N 22 (0, 2) := ⟨by decide, by omega, rfl⟩
theorem k23 {N : Int} (h : 67 ≤ N) : shk N 23 (3, 8) := ⟨by decide, by omega, rfl⟩
theorem k24 {N : Int} (h : 67 ≤ N) : shk N 24 (1, 64) := ⟨by decide, by omega, rfl⟩
theorem k25 {N : Int} (h : 67 ≤ N) : shk N 25 (0, 7) := ⟨by decide, by omega, rfl⟩
theorem k26 {N : Int} (h : 67 ≤ N) : shk N 26 (1, 7) := ⟨by decide, by omega, rfl⟩
theorem k27 {N : Int} (h : 67 ≤ N) : shk N 27 (0, 7) := ⟨by decide, by omega, rfl⟩
theorem k28 {N : Int} (h : 67 ≤ N) : shk N 28 (1, 7) := ⟨by decide, by omega, rfl⟩
theorem k29 {N : Int} (h : 67 ≤ N) : shk N 29 (0, 7) := ⟨by decide, by omega, rfl⟩
theorem k30 {N : Int} (h : 67 ≤ N) : shk N 30 (1, 7) := ⟨by decide, by omega, rfl⟩
theorem k31 {N : Int} (h : 67 ≤ N) : shk N 31 (0, 7) := ⟨by decide, by omega, rfl⟩
theorem k32 {N : Int} (h : 67 ≤ N) : shk N 32 (1, 7) := ⟨by decide, by omega, rfl⟩
theorem k33 {N : Int} (h : 67 ≤ N) : shk N 33 (0, 7) := ⟨by decide, by omega, rfl⟩
theorem k34 {N : Int} (h : 67 ≤ N) : shk N 34 (1, 7) := ⟨by decide, by omega, rfl⟩
theorem k35 {N : Int} (h : 67 ≤ N) : shk N 35 (0, 7) := ⟨by decide, by omega, rfl⟩
theorem k36 {N : Int} (h : 67 ≤ N) : shk N 36 (1, 7) := ⟨by decide, by omega, rfl⟩
theorem k37 {N : Int} (h : 67 ≤ N) : shk N 37 (0, 7) := ⟨by decide, by omega, rfl⟩
theorem k38 {N : Int} (h : 67 ≤ N) : shk N 38 (1, 7) := ⟨by decide, by omega, rfl⟩
theorem k39 {N : Int} (h : 67 ≤ N) : shk N 39 (0, 7) := ⟨by decide, by omega, rfl⟩
theorem k40 {N : Int} (h : 67 ≤ N) : shk N 40 (1, 7) := ⟨by decide, by omega, rfl⟩
theorem k41 {N : Int} (h : 67 ≤ N) : shk N 41 (0, 5) := ⟨by decide, by omega, rfl⟩
theorem k42 {N : Int} (h : 67 ≤ N) : shk N 42 (1, 24) := ⟨by decide, by omega, rfl⟩
theorem k43 {N : Int} (h : 67 ≤ N) : shk N 43 (0, 5) := ⟨by decide, by omega, rfl⟩
theorem k44 {N : Int} (h : 67 ≤ N) : shk N 44 (1, 24) := ⟨by decide, by omega, rfl⟩
theorem k45 {N : Int} (h : 67 ≤ N) : shk N 45 (0, 5) := ⟨by decide, by omega, rfl⟩
theorem k46 {N : Int} (h : 67 ≤ N) : shk N 46 (1, 24) := ⟨by decide, by omega, rfl⟩
theorem k47 {N : Int} (h : 67 ≤ N) : shk N 47 (0, 5) := ⟨by decide, by omega, rfl⟩
theorem k48 {N : Int} (h : 67 ≤ N) : shk N 48 (1, 24) := ⟨by decide, by omega, rfl⟩
theorem k49 {N : Int} (h : 67 ≤ N) : shk N 49 (0, 11) := ⟨by decide, by omega, rfl⟩
theorem k50 {N : Int} (h : 67 ≤ N) : shk N 50 (1, 56) := ⟨by decide, by omega, rfl⟩
theorem k51 {N : Int} (h : 67 ≤ N) : shk N 51 (1, 8) := ⟨by decide, by omega, rfl⟩
theorem k52 {N : Int} (h : 67 ≤ N) : shk N 52 (1, 8) := ⟨by decide, by omega, rfl⟩
theorem k53 {N : Int} (h : 67 ≤ N) : shk N 53 (1, 8) := ⟨by decide, by omega, rfl⟩
theorem k54 {N : Int} (h : 67 ≤ N) : shk N 54 (1, 8) := ⟨by decide, by omega, rfl⟩
theorem k55 {N : Int} (h : 67 ≤ N) : shk N 55 (1, 13000) := ⟨by decide, by omega, rfl⟩
theorem k56 {N : Int} (h : 67 ≤ N) : shk N 56 (1, 1000) := ⟨by decide, by omega, rfl⟩
theorem k57 {N : Int} (h : 67 ≤ N) : shk N 57 (1, 12) := ⟨by decide, by omega, rfl⟩
theorem k58 {N : Int} (h : 67 ≤ N) : shk N 58 (1, 4) := ⟨by decide, by omega, rfl⟩
theorem k59 {N : Int} (h : 67 ≤ N) : shk N 59 (1, 4) := ⟨by decide, by omega, rfl⟩
theorem k60 {N : Int} (h : 67 ≤ N) : shk N 60 (1, 96) := ⟨by decide, by omega, rfl⟩
theorem k61 {N : Int} (h : 67 ≤ N) : shk N 61 (1, 24) := ⟨by decide, by omega, rfl⟩
theorem k62 {N : Int} (h : 67 ≤ N) : shk N 62 (1, 40) := ⟨by decide, by omega, rfl⟩
theorem k63 {N : Int} (h : 67 ≤ N) : shk N 63 (1, 6) := ⟨by decide, by omega, rfl⟩
theorem k64 {N : Int} (h : 67 ≤ N) : shk N 64 (1, 297) := ⟨by decide, by omega, rfl⟩
theorem k65 {N : Int} (h : 67 ≤ N) : shk N 65 (1, 6) := ⟨by decide, by omega, rfl⟩
theorem k66 {N : Int} (h : 67 ≤ N) : shk N 66 (1, 6) := ⟨by decide, by omega, rfl⟩
theorem kw {N w : Int} (h0 : 0 ≤ w) (h : 67 + w < N) : shk N (67 + w) (0, 9) := by
  refine ⟨by omega, h, ?_⟩
  unfold shp
  rw [List.getD_eq_getElem?_getD, List.getElem?_eq_none]
  · rfl
  · have : shpL.length = 67 := rfl
    omega
theorem kst {N i : Int} (h : 67 ≤ N) (h0 : 0 ≤ i) (h1 : i < 8) : shk N (25 + 2 * i) (0, 7) ∧ shk N (26 + 2 * i) (1, 7) := by
  have : i = 0 ∨ i = 1 ∨ i = 2 ∨ i = 3 ∨ i = 4 ∨ i = 5 ∨ i = 6 ∨ i = 7 := by omega
  rcases this with rfl | rfl | rfl | rfl | rfl | rfl | rfl | rfl <;> exact ⟨⟨by decide, by omega, rfl⟩, ⟨by decide, by omega, rfl⟩⟩
theorem ksh {N i : Int} (h : 67 ≤ N) (h0 : 0 ≤ i) (h1 : i < 4) : shk N (41 + 2 * i) (0, 5) ∧ shk N (42 + 2 * i) (1, 24) := by
  have : i = 0 ∨ i = 1 ∨ i = 2 ∨ i = 3 := by omega
  rcases this with rfl | rfl | rfl | rfl <;> exact ⟨⟨by decide, by omega, rfl⟩, ⟨by decide, by omega, rfl⟩⟩
theorem cR (z : Nat) (a : Int) : (vR z a).category = (if false = true then 2 else 1) := vR_cat z a
theorem V_wk {x : Cx} {z : Nat} {Po : Pst} {N : Int} {I : Mm} {k n pc : Nat} {L L' : List (Option Value)} {st : List Value} (hl : L'.length = L.length) (h : ∀ (i : Nat) (v : Value), L[i]? = some (some v) → L'[i]? = some (some v)) (kk : V x z Po N I k n pc L st) : V x z Po N I k n pc L' st :=
  fun H locs ls hP hS hv => kk H locs ls hP hS ⟨hv.1.trans hl, hv.2.1, fun i v hi => hv.2.2 i v (h i v hi)⟩
theorem wk_at {A B : List (Option Value)} {o : Option Value} : ∀ (i : Nat) (v : Value), (A ++ none :: B)[i]? = some (some v) → (A ++ o :: B)[i]? = some (some v) := by
  intro i v h
  rcases Nat.lt_trichotomy i A.length with q | q | q
  · rw [List.getElem?_append_left q] at h ⊢; exact h
  · subst q
    rw [List.getElem?_append_right (Nat.le_refl _), Nat.sub_self] at h
    cases h
  · rw [List.getElem?_append_right (by omega)] at h ⊢
    obtain ⟨j, hj⟩ : ∃ j, i - A.length = j + 1 := ⟨i - A.length - 1, by omega⟩
    rw [hj] at h ⊢
    exact h
theorem V_drop_0 {x : Cx} {z : Nat} {Po : Pst} {N : Int} {I : Mm} {k n pc : Nat} {st : List Value} {o : Option Value} {r : List (Option Value)} (kk : V x z Po N I k n pc (none :: r) st) : V x z Po N I k n pc (o :: r) st := V_wk (L := [] ++ none :: r) (L' := [] ++ o :: r) rfl (wk_at (A := []) (B := r) (o := o)) kk
theorem V_drop_1 {x : Cx} {z : Nat} {Po : Pst} {N : Int} {I : Mm} {k n pc : Nat} {st : List Value} {o0 : Option Value} {o : Option Value} {r : List (Option Value)} (kk : V x z Po N I k n pc (o0 :: none :: r) st) : V x z Po N I k n pc (o0 :: o :: r) st := V_wk (L := [o0] ++ none :: r) (L' := [o0] ++ o :: r) rfl (wk_at (A := [o0]) (B := r) (o := o)) kk
theorem V_drop_2 {x : Cx} {z : Nat} {Po : Pst} {N : Int} {I : Mm} {k n pc : Nat} {st : List Value} {o0 o1 : Option Value} {o : Option Value} {r : List (Option Value)} (kk : V x z Po N I k n pc (o0 :: o1 :: none :: r) st) : V x z Po N I k n pc (o0 :: o1 :: o :: r) st := V_wk (L := [o0, o1] ++ none :: r) (L' := [o0, o1] ++ o :: r) rfl (wk_at (A := [o0, o1]) (B := r) (o := o)) kk
theorem V_drop_3 {x : Cx} {z : Nat} {Po : Pst} {N : Int} {I : Mm} {k n pc : Nat} {st : List Value} {o0 o1 o2 : Option Value} {o : Option Value} {r : List (Option Value)} (kk : V x z Po N I k n pc (o0 :: o1 :: o2 :: none :: r) st) : V x z Po N I k n pc (o0 :: o1 :: o2 :: o :: r) st := V_wk (L := [o0, o1, o2] ++ none :: r) (L' := [o0, o1, o2] ++ o :: r) rfl (wk_at (A := [o0, o1, o2]) (B := r) (o := o)) kk
theorem V_drop_4 {x : Cx} {z : Nat} {Po : Pst} {N : Int} {I : Mm} {k n pc : Nat} {st : List Value} {o0 o1 o2 o3 : Option Value} {o : Option Value} {r : List (Option Value)} (kk : V x z Po N I k n pc (o0 :: o1 :: o2 :: o3 :: none :: r) st) : V x z Po N I k n pc (o0 :: o1 :: o2 :: o3 :: o :: r) st := V_wk (L := [o0, o1, o2, o3] ++ none :: r) (L' := [o0, o1, o2, o3] ++ o :: r) rfl (wk_at (A := [o0, o1, o2, o3]) (B := r) (o := o)) kk
theorem V_drop_5 {x : Cx} {z : Nat} {Po : Pst} {N : Int} {I : Mm} {k n pc : Nat} {st : List Value} {o0 o1 o2 o3 o4 : Option Value} {o : Option Value} {r : List (Option Value)} (kk : V x z Po N I k n pc (o0 :: o1 :: o2 :: o3 :: o4 :: none :: r) st) : V x z Po N I k n pc (o0 :: o1 :: o2 :: o3 :: o4 :: o :: r) st := V_wk (L := [o0, o1, o2, o3, o4] ++ none :: r) (L' := [o0, o1, o2, o3, o4] ++ o :: r) rfl (wk_at (A := [o0, o1, o2, o3, o4]) (B := r) (o := o)) kk
theorem V_drop_6 {x : Cx} {z : Nat} {Po : Pst} {N : Int} {I : Mm} {k n pc : Nat} {st : List Value} {o0 o1 o2 o3 o4 o5 : Option Value} {o : Option Value} {r : List (Option Value)} (kk : V x z Po N I k n pc (o0 :: o1 :: o2 :: o3 :: o4 :: o5 :: none :: r) st) : V x z Po N I k n pc (o0 :: o1 :: o2 :: o3 :: o4 :: o5 :: o :: r) st := V_wk (L := [o0, o1, o2, o3, o4, o5] ++ none :: r) (L' := [o0, o1, o2, o3, o4, o5] ++ o :: r) rfl (wk_at (A := [o0, o1, o2, o3, o4, o5]) (B := r) (o := o)) kk
theorem V_drop_7 {x : Cx} {z : Nat} {Po : Pst} {N : Int} {I : Mm} {k n pc : Nat} {st : List Value} {o0 o1 o2 o3 o4 o5 o6 : Option Value} {o : Option Value} {r : List (Option Value)} (kk : V x z Po N I k n pc (o0 :: o1 :: o2 :: o3 :: o4 :: o5 :: o6 :: none :: r) st) : V x z Po N I k n pc (o0 :: o1 :: o2 :: o3 :: o4 :: o5 :: o6 :: o :: r) st := V_wk (L := [o0, o1, o2, o3, o4, o5, o6] ++ none :: r) (L' := [o0, o1, o2, o3, o4, o5, o6] ++ o :: r) rfl (wk_at (A := [o0, o1, o2, o3, o4, o5, o6]) (B := r) (o := o)) kk
theorem V_drop_8 {x : Cx} {z : Nat} {Po : Pst} {N : Int} {I : Mm} {k n pc : Nat} {st : List Value} {o0 o1 o2 o3 o4 o5 o6 o7 : Option Value} {o : Option Value} {r : List (Option Value)} (kk : V x z Po N I k n pc (o0 :: o1 :: o2 :: o3 :: o4 :: o5 :: o6 :: o7 :: none :: r) st) : V x z Po N I k n pc (o0 :: o1 :: o2 :: o3 :: o4 :: o5 :: o6 :: o7 :: o :: r) st := V_wk (L := [o0, o1, o2, o3, o4, o5, o6, o7] ++ none :: r) (L' := [o0, o1, o2, o3, o4, o5, o6, o7] ++ o :: r) rfl (wk_at (A := [o0, o1, o2, o3, o4, o5, o6, o7]) (B := r) (o := o)) kk
theorem V_drop_9 {x : Cx} {z : Nat} {Po : Pst} {N : Int} {I : Mm} {k n pc : Nat} {st : List Value} {o0 o1 o2 o3 o4 o5 o6 o7 o8 : Option Value} {o : Option Value} {r : List (Option Value)} (kk : V x z Po N I k n pc (o0 :: o1 :: o2 :: o3 :: o4 :: o5 :: o6 :: o7 :: o8 :: none :: r) st) : V x z Po N I k n pc (o0 :: o1 :: o2 :: o3 :: o4 :: o5 :: o6 :: o7 :: o8 :: o :: r) st := V_wk (L := [o0, o1, o2, o3, o4, o5, o6, o7, o8] ++ none :: r) (L' := [o0, o1, o2, o3, o4, o5, o6, o7, o8] ++ o :: r) rfl (wk_at (A := [o0, o1, o2, o3, o4, o5, o6, o7, o8]) (B := r) (o := o)) kk
theorem V_drop_10 {x : Cx} {z : Nat} {Po : Pst} {N : Int} {I : Mm} {k n pc : Nat} {st : List Value} {o0 o1 o2 o3 o4 o5 o6 o7 o8 o9 : Option Value} {o : Option Value} {r : List (Option Value)} (kk : V x z Po N I k n pc (o0 :: o1 :: o2 :: o3 :: o4 :: o5 :: o6 :: o7 :: o8 :: o9 :: none :: r) st) : V x z Po N I k n pc (o0 :: o1 :: o2 :: o3 :: o4 :: o5 :: o6 :: o7 :: o8 :: o9 :: o :: r) st := V_wk (L := [o0, o1, o2, o3, o4, o5, o6, o7, o8, o9] ++ none :: r) (L' := [o0, o1, o2, o3, o4, o5, o6, o7, o8, o9] ++ o :: r) rfl (wk_at (A := [o0, o1, o2, o3, o4, o5, o6, o7, o8, o9]) (B := r) (o := o)) kk
theorem V_drop_11 {x : Cx} {z : Nat} {Po : Pst} {N : Int} {I : Mm} {k n pc : Nat} {st : List Value} {o0 o1 o2 o3 o4 o5 o6 o7 o8 o9 o10 : Option Value} {o : Option Value} {r : List (Option Value)} (kk : V x z Po N I k n pc (o0 :: o1 :: o2 :: o3 :: o4 :: o5 :: o6 :: o7 :: o8 :: o9 :: o10 :: none :: r) st) : V x z Po N I k n pc (o0 :: o1 :: o2 :: o3 :: o4 :: o5 :: o6 :: o7 :: o8 :: o9 :: o10 :: o :: r) st := V_wk (L := [o0, o1, o2, o3, o4, o5, o6, o7, o8, o9, o10] ++ none :: r) (L' := [o0, o1, o2, o3, o4, o5, o6, o7, o8, o9, o10] ++ o :: r) rfl (wk_at (A := [o0, o1, o2, o3, o4, o5, o6, o7, o8, o9, o10]) (B := r) (o := o)) kk
theorem V_drop_12 {x : Cx} {z : Nat} {Po : Pst} {N : Int} {I : Mm} {k n pc : Nat} {st : List Value} {o0 o1 o2 o3 o4 o5 o6 o7 o8 o9 o10 o11 : Option Value} {o : Option Value} {r : List (Option Value)} (kk : V x z Po N I k n pc (o0 :: o1 :: o2 :: o3 :: o4 :: o5 :: o6 :: o7 :: o8 :: o9 :: o10 :: o11 :: none :: r) st) : V x z Po N I k n pc (o0 :: o1 :: o2 :: o3 :: o4 :: o5 :: o6 :: o7 :: o8 :: o9 :: o10 :: o11 :: o :: r) st := V_wk (L := [o0, o1, o2, o3, o4, o5, o6, o7, o8, o9, o10, o11] ++ none :: r) (L' := [o0, o1, o2, o3, o4, o5, o6, o7, o8, o9, o10, o11] ++ o :: r) rfl (wk_at (A := [o0, o1, o2, o3, o4, o5, o6, o7, o8, o9, o10, o11]) (B := r) (o := o)) kk
theorem V_drop_13 {x : Cx} {z : Nat} {Po : Pst} {N : Int} {I : Mm} {k n pc : Nat} {st : List Value} {o0 o1 o2 o3 o4 o5 o6 o7 o8 o9 o10 o11 o12 : Option Value} {o : Option Value} {r : List (Option Value)} (kk : V x z Po N I k n pc (o0 :: o1 :: o2 :: o3 :: o4 :: o5 :: o6 :: o7 :: o8 :: o9 :: o10 :: o11 :: o12 :: none :: r) st) : V x z Po N I k n pc (o0 :: o1 :: o2 :: o3 :: o4 :: o5 :: o6 :: o7 :: o8 :: o9 :: o10 :: o11 :: o12 :: o :: r) st := V_wk (L := [o0, o1, o2, o3, o4, o5, o6, o7, o8, o9, o10, o11, o12] ++ none :: r) (L' := [o0, o1, o2, o3, o4, o5, o6, o7, o8, o9, o10, o11, o12] ++ o :: r) rfl (wk_at (A := [o0, o1, o2, o3, o4, o5, o6, o7, o8, o9, o10, o11, o12]) (B := r) (o := o)) kk
