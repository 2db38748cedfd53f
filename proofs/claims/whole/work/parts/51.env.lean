/-! ===== what the start gives beside the tables: array classes, constructors of nest mates, two tables of numbers, one text ===== -/
abbrev Ee : Type := Nat × Nat × Nat × Nat
def lstT : List Int := [0, 1, 0, 0, 0, 0, 0]
def mstT : List Int := [9, 16, 999, 99, 3, 999, 16]
def ltrT : List Int32 := [99, 108, 116, 100, 110, 102]
def EX (z : Nat) (e : Ee) (U : State) : Prop := (va_AO RX7 U ∧ va_AO RX5 U ∧ va_AO RX9 U) ∧
  (va_Nw (.methodLinkNest RX10 29 yX8_init RX10) U ∧ va_Nw (.methodLinkNest RX6 11 yX1_init RX10) U ∧ va_Nw (.methodLinkNest RX10 66 yX0_init RX10) U ∧ va_Nw (.methodLinkNest RX10 73 yX2_init RX10) U ∧ va_Nw (.methodLinkNest RX10 79 yX5_init RX10) U) ∧
  (va_Z RX10 "LEAST_TOLD" "[I" (.ref e.1) (Ah z) U U.heap ∧ va_T .int e.1 7 (fun j => vI (lstT.getD j 0)) (Ah z) U U.heap) ∧
  (va_Z RX10 "MOST_TOLD" "[I" (.ref e.2.1) (Ah z) U U.heap ∧ va_T .int e.2.1 7 (fun j => vI (mstT.getD j 0)) (Ah z) U U.heap) ∧
  vk_R RX8 55 "cltdnf" e.2.2.1 U ∧ (va_O RJ0 e.2.2.1 (Ah z) U U.heap ∧ va_OF RJ0 "coder" "B" (.int 0) e.2.2.1 (Ah z) U U.heap ∧ va_OF RJ0 "value" "[B" (.ref e.2.2.2) e.2.2.1 (Ah z) U U.heap ∧ va_T .byte e.2.2.2 6 (fun j => .int (ltrT.getD j 0)) (Ah z) U U.heap) ∧
  va_Z RJ0 "COMPACT_STRINGS" "Z" (.int 1) (Ah z) U U.heap
theorem EX.moved {z : Nat} {e : Ee} {u U : State} (h : EX z e u) (hW : u.WarmedH U.vm) (hq : ∀ q : Nat, q < z → U.heap[q]? = u.heap[q]?) : EX z e U := by
  have hvm := hW.alike
  have hk : ∀ a : Nat, a < u.heap.size → ¬ Ah z a → U.heap[a]? = u.heap[a]? := fun a _ ha => hq a (Nat.not_le.mp ha)
  obtain ⟨⟨a1, a2, a3⟩, ⟨n1, n2, n3, n4, n5⟩, ⟨l1, l2⟩, ⟨m1, m2⟩, r, ⟨s1, s2, s3, s4⟩, cs⟩ := h
  exact ⟨⟨a1.moved hvm, a2.moved hvm, a3.moved hvm⟩, ⟨n1.warmM hW, n2.warmM hW, n3.warmM hW, n4.warmM hW, n5.warmM hW⟩, ⟨(l1.moved hvm).kept hk, (l2.moved hvm).kept hk⟩, ⟨(m1.moved hvm).kept hk, (m2.moved hvm).kept hk⟩, r.warm hW, ⟨(s1.moved hvm).kept hk, (s2.moved hvm).kept hk, (s3.moved hvm).kept hk, (s4.moved hvm).kept hk⟩, (cs.moved hvm).kept hk⟩
/-- what else the start gives is this -/
def HE (d : Dd) (z : Nat) (e : Ee) : Prop := ∀ U : State, d.2.2.2.2.2.2 U → EX z e U
section VE
variable {x : Cx} {z : Nat} {own : String} {cc : ByteArray} {nL : Nat} {ret : Option FieldType} {fr lo mc ms : Nat} {Po : Pst} {N : Int} {I : Mm} {k n pc : Nat} {L : List (Option Value)} {st : List Value} {d : Dd} {e : Ee}
theorem OK.ex (hx : OK x z own cc nL ret fr lo mc ms) (ed : xd x = d) (hE : HE d z e) : EX z e (xs x) := hE _ (by rw [← ed]; exact hx.2.2.2.2.2.1.2.1)
theorem V_gets (hx : OK x z own cc nL ret fr lo mc ms) {C nm ds : String} {v : Value} {idx : Nat} (hZ : va_Z C nm ds v (Ah z) (xs x) (xs x).heap) (hlk : Cond.fieldLink own idx C nm ds ∈ gtbl) (hd : decode cc pc = .ok (.getstatic idx, 3)) (kk : V x z Po N I k n (pc + 3) L (v :: st)) : V x z Po N I k n pc L st :=
  fun H locs ls hP hS hl => va_gets hx.1 hx.2.1 hZ hS hx.2.2.2.1 (hx.2.2.2.2.1 _ hlk) (fun _ h => h) hd (kk H locs ls hP hS hl)
theorem V_tldI (hx : OK x z own cc nL ret fr lo mc ms) {t m : Nat} {T : List Int} {i : Int} (hT : va_T .int t m (fun j => vI (T.getD j 0)) (Ah z) (xs x) (xs x).heap) (hi : 0 ≤ i ∧ i < (m : Int)) (hm : m ≤ 2147483647) (hd : decode cc pc = .ok (.iaload, 1)) (kk : V x z Po N I k n (pc + 1) L (vI (T.getD i.toNat 0) :: st)) : V x z Po N I k n pc L (vI i :: .ref t :: st) :=
  fun H locs ls hP hS hl => va_ti hx.1 hx.2.1 hT hS (vp_in_o hi hm) (by rw [oI_clamp (by omega)]) hd (kk H locs ls hP hS hl)
theorem V_tldB (hx : OK x z own cc nL ret fr lo mc ms) {t m : Nat} {T : List Int32} {i : Int} (hT : va_T .byte t m (fun j => .int (T.getD j 0)) (Ah z) (xs x) (xs x).heap) (hi : 0 ≤ i ∧ i < (m : Int)) (hm : m ≤ 2147483647) (hd : decode cc pc = .ok (.baload, 1)) (kk : V x z Po N I k n (pc + 1) L (.int (T.getD i.toNat 0) :: st)) : V x z Po N I k n pc L (vI i :: .ref t :: st) :=
  fun H locs ls hP hS hl => va_tb hx.1 hx.2.1 hT hS (vp_in_o hi hm) (by rw [oI_clamp (by omega)]) hd (kk H locs ls hP hS hl)
theorem V_tlen (hx : OK x z own cc nL ret fr lo mc ms) {t m : Nat} {ty : FieldType} {f : Nat → Value} (hT : va_T ty t m f (Ah z) (xs x) (xs x).heap) (hd : decode cc pc = .ok (.arraylength, 1)) (kk : V x z Po N I k n (pc + 1) L (vI (m : Int) :: st)) : V x z Po N I k n pc L (.ref t :: st) :=
  fun H locs ls hP hS hl => va_tlen hx.1 hx.2.1 hT hS (rfl : Int32.ofNat m = Int32.ofInt (m : Int)) hd (kk H locs ls hP hS hl)
theorem V_ldcS (hx : OK x z own cc nL ret fr lo mc ms) {idx a : Nat} {tx : String} (hR : vk_R own idx tx a (xs x)) (hd : decode cc pc = .ok (.ldc idx, 2)) (kk : V x z Po N I k n (pc + 2) L (.ref a :: st)) : V x z Po N I k n pc L st :=
  fun H locs ls hP hS hl => va_ldcS hx.1 hx.2.1 hx.2.2.2.1 hR hd (kk H locs ls hP hS hl)
theorem V_getO (hx : OK x z own cc nL ret fr lo mc ms) {o nm ds : String} {idx q : Nat} {v : Value} (hO : va_OF o nm ds v q (Ah z) (xs x) (xs x).heap) (hlk : Cond.fieldLink own idx o nm ds ∈ gtbl) (hd : decode cc pc = .ok (.getfield idx, 3)) (kk : V x z Po N I k n (pc + 3) L (v :: st)) : V x z Po N I k n pc L (.ref q :: st) :=
  fun H locs ls hP hS hl => vk_getf hx.1 hx.2.1 hO hS hx.2.2.2.1 (hx.2.2.2.2.1 _ hlk) (fun _ h => h) hd (kk H locs ls hP hS hl)
/-- an instance method of an object that was there at the start -/
theorem V_invO {y : MethodName} {cy : ByteArray} {nLy np : Nat} {rety : Option FieldType} {fr' lo' mc' ms' idx a : Nat} (As : List Value) {Pq : Pst} {rest : List Value} {l : Launch} {d : Dd}
    (hx : OK x z own cc nL ret fr lo mc ms) (el : xl x = l) (ed : xd x = d) (hM : Cn l d z y cy nLy rety fr' lo' mc' ms' (.ref a :: As) N I Pq) (hy : MV y cy nLy rety np) (hl : ML own idx y) (hd : decode cc pc = .ok (.invokevirtual idx, 3)) (hO : va_O y.cls a (Ah z) (xs x) (xs x).heap)
    (hR : fr' + 1 ≤ fr ∧ 19 + nLy + lo' ≤ lo) (hf : k + mc' ≤ mc ∧ n + ms' ≤ ms) (hLn : L.length = nL) (hn : As.length = np) (hw : (rest.map fun v => v.category).sum ≤ 8)
    (kk : ∀ (v : Option Value) (N' : Int) (I' : Mm), Pq v N' I' → V x z Po N' I' (k + mc') (n + ms') (pc + 3) L (v.toList ++ rest)) : V x z Po N I k n pc L (As.reverse ++ .ref a :: rest) := by
  subst el; subst ed
  intro H locs ls hP hS hl0
  obtain ⟨cell, g1, g2, g3, -⟩ := hO.kept hS.2.1
  refine V_run (y := y) (args := .ref a :: As) hx hP hS hl0 ?_ kk
  exact va_runV (C := y.cls) hx.fix hM ⟨hx.callB hy.1 hl hR, hx.2.2.2.2.1 _ hy.2.1, hx.2.2.2.2.1 _ hy.2.2⟩
      ⟨pc_blind, ⟨cell, g1, g2, g3⟩, fun U hU hW => ⟨rfl, hx.pre hP hS U hU hW⟩⟩ rfl hn (hl0.1.trans hLn) rfl (lv_room hw) hd (hx.room hf)
end VE
