/-! ===== the logical memory: cell j from the law's start on, place k: an int, or a reference (below 0: null) ===== -/
abbrev Mm : Type := Int → Int → Int
def vI (a : Int) : Value := .int (Int32.ofInt a)
def vL (a : Int) : Value := .long (Int64.ofInt a)
def vO (z : Nat) (a : Int) : Option Nat := if a < 0 then none else some (z + a.toNat)
def vR (z : Nat) (a : Int) : Value := va_rf (vO z a)
def up (I : Mm) (a k v : Int) : Mm := fun a' k' => if a' = a ∧ k' = k then v else I a' k'
/-- class tables, the array classes of int, byte, Word, Stream, Sheet; what else the start gives -/
abbrev Dd : Type := va_G × ClassId × ClassId × ClassId × ClassId × ClassId × (State → Prop)
abbrev dtys (d : Dd) : List (ClassId × FieldType) := [(d.2.1, .int), (d.2.2.1, .byte), (d.2.2.2.1, .object RX9), (d.2.2.2.2.1, .object RX7), (d.2.2.2.2.2.1, .object RX5)]
def fty (ci k : Nat) : FieldType := match ci with
  | 0 => tyX0 k | 1 => tyX1 k | 2 => tyX2 k | 3 => tyX3 k | 4 => tyX4 k | 5 => tyX5 k | 6 => tyX6 k | 7 => tyX7 k | 8 => tyX8 k | 9 => tyX9 k | 10 => tyX10 k | _ => tyX11 k
def isI (t : FieldType) : Bool := match t with
  | .int => true
  | _ => false
def fv (z ci k : Nat) (a : Int) : Value := if isI (fty ci k) = true then vI a else vR z a
def nf (ci : Nat) : Nat := match kcls[ci]? with
  | some r => r.2.2
  | none => 0
def flds (z ci : Nat) (f : Int → Int) : List Value := (List.range (nf ci)).map (fun k => fv z ci k (f k))
/-- the shapes: (0, class), (1, length) ints, (2, length) bytes, (3, length) Words, (4, length) Streams, (5, length) Sheets -/
def shpL : List (Nat × Nat) := [(0, 10), (4, 8), (5, 4), (3, 1000), (0, 8), (2, 40), (1, 6), (0, 4), (1, 6), (0, 4), (1, 6), (0, 3), (0, 6), (0, 1), (3, 25), (0, 1), (3, 25), (3, 1000), (0, 0), (1, 24), (1, 1024), (1, 32), (0, 2), (3, 8), (1, 64),
  (0, 7), (1, 7), (0, 7), (1, 7), (0, 7), (1, 7), (0, 7), (1, 7), (0, 7), (1, 7), (0, 7), (1, 7), (0, 7), (1, 7), (0, 7), (1, 7), (0, 5), (1, 24), (0, 5), (1, 24), (0, 5), (1, 24), (0, 5), (1, 24),
  (0, 11), (1, 56), (1, 8), (1, 8), (1, 8), (1, 8), (1, 13000), (1, 1000), (1, 12), (1, 4), (1, 4), (1, 96), (1, 24), (1, 40), (1, 6), (1, 297), (1, 6), (1, 6)]
def shp (j : Nat) : Nat × Nat := shpL.getD j (0, 9)
def lcs (d : Dd) (z : Nat) (s : Nat × Nat) (f : Int → Int) : va_E := match s with
  | (0, ci) => .inr (ci, flds z ci f)
  | (1, n) => .inl (d.2.1, n, .inl (fun k => Int32.ofInt (f k)))
  | (2, n) => .inl (d.2.2.1, n, .inl (fun k => Int32.ofInt (f k)))
  | (3, n) => .inl (d.2.2.2.1, n, .inr (.inr (.inr (.inr (fun k => vO z (f k))))))
  | (4, n) => .inl (d.2.2.2.2.1, n, .inr (.inr (.inr (.inr (fun k => vO z (f k))))))
  | (_, n) => .inl (d.2.2.2.2.2.1, n, .inr (.inr (.inr (.inr (fun k => vO z (f k))))))
def hp (d : Dd) (z : Nat) (N : Int) (I : Mm) (H : Heap) : Prop := 0 ≤ N ∧ H.size = z + N.toNat ∧ ∀ j : Nat, (j : Int) < N → va_at d.1 kcls (z + j, lcs d z (shp j) (I j)) H
/-- cell a is there and has the shape s -/
def shk (N a : Int) (s : Nat × Nat) : Prop := 0 ≤ a ∧ a < N ∧ shp a.toNat = s
def Ah (z : Nat) : Nat → Prop := fun q => z ≤ q
def KT (d : Dd) (z : Nat) (U : State) : Prop := va_K d.1 kcls (dtys d) U ∧ d.2.2.2.2.2.2 U ∧
  ∀ u U' : State, d.2.2.2.2.2.2 u → u.WarmedH U'.vm → (∀ q : Nat, q < z → U'.heap[q]? = u.heap[q]?) → d.2.2.2.2.2.2 U'
theorem KT.moved {d : Dd} {z : Nat} {u U : State} (h : KT d z u) (hW : u.WarmedH U.vm) (hq : ∀ q : Nat, q < z → U.heap[q]? = u.heap[q]?) : KT d z U := ⟨va_K.moved hW.alike h.1, h.2.2 u U h.2.1 hW hq, h.2.2⟩
theorem flds_get {z ci k : Nat} {f : Int → Int} (hk : k < nf ci) : (flds z ci f)[k]? = some (fv z ci k (f k)) := by
  simp [flds, hk]
theorem flds_len (z ci : Nat) (f : Int → Int) : (flds z ci f).length = nf ci := by simp [flds]
theorem up_s (I : Mm) (a k v : Int) : up I a k v a k = v := by simp [up]
theorem up_n {I : Mm} {a k v a' k' : Int} (h : a' ≠ a ∨ k' ≠ k) : up I a k v a' k' = I a' k' := by
  unfold up
  rw [if_neg]
  rintro ⟨h1, h2⟩
  rcases h with h | h
  · exact h h1
  · exact h h2
theorem up_row {I : Mm} {a k v a' : Int} (h : a' ≠ a) : up I a k v a' = I a' := by
  funext k'
  exact up_n (Or.inl h)
theorem vO_some {z : Nat} {a : Int} (h : 0 ≤ a) : vO z a = some (z + a.toNat) := by
  unfold vO
  rw [if_neg (by omega)]
theorem vO_none {z : Nat} {a : Int} (h : a < 0) : vO z a = none := by
  unfold vO
  rw [if_pos h]
theorem vR_ref {z : Nat} {a : Int} (h : 0 ≤ a) : vR z a = .ref (z + a.toNat) := by
  unfold vR
  rw [vO_some h]
  rfl
theorem vR_null {z : Nat} {a : Int} (h : a < 0) : vR z a = .null := by
  unfold vR
  rw [vO_none h]
  rfl
theorem vR_cat (z : Nat) (a : Int) : (vR z a).category = 1 := by
  rcases Int.lt_or_le a 0 with h | h
  · rw [vR_null h]; rfl
  · rw [vR_ref h]; rfl
/-- the cell of the heap at a logical cell -/
theorem hp.at {d : Dd} {z : Nat} {N : Int} {I : Mm} {H : Heap} (h : hp d z N I H) {a : Int} {s : Nat × Nat} (hs : shk N a s) : va_at d.1 kcls (z + a.toNat, lcs d z s (I a)) H := by
  obtain ⟨h1, h2, h3⟩ := hs
  have := h.2.2 a.toNat (by omega)
  rw [h3, Int.toNat_of_nonneg h1] at this
  exact this
/-- one place of one cell is written -/
theorem hp.put {d : Dd} {z : Nat} {N : Int} {I : Mm} {H H1 : Heap} (h : hp d z N I H) {a k v : Int} {s : Nat × Nat} (hs : shk N a s) (hz : H1.size = H.size) (oq : ∀ q : Nat, q ≠ z + a.toNat → H1[q]? = H[q]?)
    (he : va_at d.1 kcls (z + a.toNat, lcs d z s (up I a k v a)) H1) : hp d z N (up I a k v) H1 := by
  obtain ⟨h1, h2, h3⟩ := hs
  refine ⟨h.1, by rw [hz]; exact h.2.1, fun j hj => ?_⟩
  by_cases hja : (j : Int) = a
  · subst hja
    rw [Int.toNat_natCast] at h3 he
    rw [h3]
    exact he
  · rw [up_row hja]
    exact (h.2.2 j hj).kept (oq (z + j) (by omega))
/-- a row of a cell is written: any change of one cell's places -/
def upR (I : Mm) (a : Int) (f : Int → Int) : Mm := fun a' => if a' = a then f else I a'
theorem hp.putR {d : Dd} {z : Nat} {N : Int} {I : Mm} {H H1 : Heap} (h : hp d z N I H) {a : Int} {f : Int → Int} {s : Nat × Nat} (hs : shk N a s) (hz : H1.size = H.size) (oq : ∀ q : Nat, q ≠ z + a.toNat → H1[q]? = H[q]?)
    (he : va_at d.1 kcls (z + a.toNat, lcs d z s f) H1) : hp d z N (upR I a f) H1 := by
  obtain ⟨h1, h2, h3⟩ := hs
  refine ⟨h.1, by rw [hz]; exact h.2.1, fun j hj => ?_⟩
  by_cases hja : (j : Int) = a
  · subst hja
    rw [Int.toNat_natCast] at h3 he
    rw [h3]
    unfold upR
    rw [if_pos rfl]
    exact he
  · unfold upR
    rw [if_neg hja]
    exact (h.2.2 j hj).kept (oq (z + j) (by omega))
/-- a new cell behind the others -/
theorem hp.new {d : Dd} {z : Nat} {N : Int} {I : Mm} {H H1 : Heap} (h : hp d z N I H) {f : Int → Int} {s : Nat × Nat} (hs : shp N.toNat = s) (hz : H1.size = H.size + 1) (oq : ∀ q : Nat, q < H.size → H1[q]? = H[q]?)
    (he : va_at d.1 kcls (z + N.toNat, lcs d z s f) H1) : hp d z (N + 1) (upR I N f) H1 := by
  have h0 := h.1
  refine ⟨by omega, by rw [hz, h.2.1]; omega, fun j hj => ?_⟩
  by_cases hja : (j : Int) = N
  · unfold upR
    rw [if_pos hja]
    have : j = N.toNat := by omega
    subst this
    rw [hs]
    exact he
  · unfold upR
    rw [if_neg hja]
    exact (h.2.2 j (by omega)).kept (oq (z + j) (by rw [h.2.1]; omega))
/-! ===== the locals as a row of values that may be unknown ===== -/
def lvL (ls : Array Slot) (L : List (Option Value)) : Prop := ls.size = L.length ∧ lv_wf ls ∧ ∀ (i : Nat) (v : Value), L[i]? = some (some v) → ls[i]? = some (.val v)
def prs (L : List (Option Value)) : List (Nat × Value) := (List.range L.length).filterMap (fun i => (L[i]?.getD none).map (fun v => (i, v)))
theorem prs_mem {L : List (Option Value)} {i : Nat} {v : Value} : (i, v) ∈ prs L ↔ L[i]? = some (some v) := by
  unfold prs
  rw [List.mem_filterMap]
  constructor
  · rintro ⟨j, hj, h⟩
    rw [List.mem_range] at hj
    cases hq : L[j]? with
    | none => simp [hq] at h
    | some o =>
      cases o with
      | none => simp [hq] at h
      | some w =>
        simp [hq] at h
        obtain ⟨rfl, rfl⟩ := h
        exact hq
  · intro h
    have hi : i < L.length := (List.getElem?_eq_some_iff.mp h).1
    exact ⟨i, List.mem_range.mpr hi, by simp [h]⟩
theorem lvL.has {ls : Array Slot} {L : List (Option Value)} (h : lvL ls L) : lv_has ls L.length (prs L) := ⟨h.1, h.2.1, fun q hq => h.2.2 q.1 q.2 (prs_mem.mp hq)⟩
/-- no long stands there -/
def nc2 (o : Option Value) : Prop := ∀ w, o = some w → w.category = 1
theorem nc_I {a : Int} : nc2 (some (vI a)) := fun w h => by cases h; rfl
theorem nc_R {z : Nat} {a : Int} : nc2 (some (vR z a)) := fun w h => by cases h; exact vR_cat z a
theorem nc_n : nc2 none := fun w h => by cases h
def nc2p (L : List (Option Value)) (i : Nat) : Prop := ∀ j, j + 1 = i → ∀ o, L[j]? = some o → nc2 o
theorem lvL.st1 {ls ls' : Array Slot} {L : List (Option Value)} {i : Nat} {v : Value} (hL : lvL ls L) (hn : nc2p L i) (h : lv_has ls' L.length ((i, v) :: (prs L).filter (fun q => !(q.1 == i) && !(q.1 + 1 == i && q.2.category == 2)))) : lvL ls' (L.set i (some v)) := by
  refine ⟨by rw [List.length_set]; exact h.1, h.2.1, fun j w hj => ?_⟩
  apply h.2.2 (j, w)
  by_cases hji : j = i
  · subst hji
    have hlt : j < L.length := by
      have := (List.getElem?_eq_some_iff.mp hj).1
      simpa using this
    rw [List.getElem?_set_self hlt] at hj
    cases hj
    exact List.mem_cons_self
  · rw [List.getElem?_set_ne (Ne.symm hji)] at hj
    refine List.mem_cons_of_mem _ (List.mem_filter.mpr ⟨prs_mem.mpr hj, ?_⟩)
    have : ¬ (j + 1 = i ∧ w.category = 2) := by
      rintro ⟨h1, h2⟩
      have := hn j h1 _ hj w rfl
      omega
    simp [hji]
    omega
theorem lvL.st2 {ls ls' : Array Slot} {L : List (Option Value)} {i : Nat} {v : Value} (hL : lvL ls L) (hn : nc2p L i) (h : lv_has ls' L.length ((i, v) :: (prs L).filter (fun q => !(q.1 == i) && (!(q.1 == i + 1) && !(q.1 + 1 == i && q.2.category == 2))))) : lvL ls' ((L.set i (some v)).set (i + 1) none) := by
  refine ⟨by rw [List.length_set, List.length_set]; exact h.1, h.2.1, fun j w hj => ?_⟩
  apply h.2.2 (j, w)
  by_cases hj1 : j = i + 1
  · subst hj1
    have hlt : i + 1 < (L.set i (some v)).length := by
      have := (List.getElem?_eq_some_iff.mp hj).1
      simpa using this
    rw [List.getElem?_set_self hlt] at hj
    cases hj
  rw [List.getElem?_set_ne (Ne.symm hj1)] at hj
  by_cases hji : j = i
  · subst hji
    have hlt : j < L.length := by
      have := (List.getElem?_eq_some_iff.mp hj).1
      simpa using this
    rw [List.getElem?_set_self hlt] at hj
    cases hj
    exact List.mem_cons_self
  · rw [List.getElem?_set_ne (Ne.symm hji)] at hj
    refine List.mem_cons_of_mem _ (List.mem_filter.mpr ⟨prs_mem.mpr hj, ?_⟩)
    have : ¬ (j + 1 = i ∧ w.category = 2) := by
      rintro ⟨h1, h2⟩
      have := hn j h1 _ hj w rfl
      omega
    simp [hji, hj1]
    omega
