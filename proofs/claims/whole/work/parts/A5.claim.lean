/-! THE CLAIM OUT OF ONE WALK OF THE LAW'S BODY. Your part is whole_start (and what it stands on); all else here is the same for every law, but numbers. -/
def R_law : String := "TurnPortLaw"
def lw_P (b : Addr) (xs : List Int32) (args : Array Value) (s : State) : Prop := args = #[.ref b] ∧ s.IntsAt b xs ∧ xs.length ≤ 3072 ∧ (Jvm.Cond.and given_1 narrow_1).before args s = true
def lw_Q (_ : Array Value) (s : State) (o : Outcome) (t : State) : Prop := o = .returned (some (.int 1)) ∧ Framed s o t [] 600000 7302250
def lw_Z (below : List Frame) (a : Array Value) (s : State) : State → Prop := fun t => ∃ o, t.status = .running ∧ Ended t below o ∧ lw_Q a s o t
/-- the law's own end, with 1 on the stack, nothing written that was there before, its room as the claim has it -/
theorem lw_ret {p : Program} {l : Launch} {e : Env} {s : State} {m : MethodId} {below : List Frame} {meth : Method} {c : Code} {b : Nat} (hx : p.tables.exec = Jvm.exec) (hb : c.code = code) (hr : meth.sig.returnType = ret) (hlocks : meth.locks = false) {pc : Nat} {H : Heap} {ls : Array Slot} (hdg : decode code pc = .ok (.ireturn, 1)) : W p l e room_1 s m #[Value.ref b] below meth c H [] 600000 7302250 (lw_Z below #[Value.ref b] s) (F0 m pc ls [.int 1]) := by
  intro T hT X
  obtain ⟨fs, hret, hrun, hended, hW, hframe⟩ := X.leave (v := some (.int 1)) (hlocks := hlocks) (fun h => by rw [hr] at h; cases h)
  have hmeth' : T.vm.method? m = some meth := X.method'
  refine ⟨T.setFrames fs, ?_, .returned (some (.int 1)), hrun, hended, rfl, ⟨_, rfl⟩, hW, hframe⟩
  jvm_step X.here [X.here.top, hx, hb, hdg, hmeth', hr, ret, narrow_b1]
  (try refine ⟨rfl, ?_⟩); (try refine ⟨rfl, ?_⟩)
  first | (intro acts; rw [hret _ acts rfl rfl rfl]) | rw [hret _ _ rfl rfl rfl]
  exact Steps.refl _
/-- what holds at the law's entry: the machine, the code, the tables' words (any of lw_tbl by 'hts w (by decide +kernel)'), the script of L ints xs at the cell b, what the Statement gives of the start (any of its parts by flat_of_before) -/
def lw_At (p : Program) (s : State) (m : MethodId) (meth : Method) (c : Code) (b L : Nat) (xs : Nat → Int32) : Prop :=
  p.tables.exec = Jvm.exec ∧ c.code = code ∧ meth.sig.returnType = ret ∧ c.maxLocals = 4 ∧ s.vm.findClass R_law = some m.cls ∧ (∀ w ∈ lw_tbl, w.before #[Value.ref b] s = true) ∧ va_X b L xs s s.heap ∧ b < s.heap.size ∧ meth.locks = false ∧ (Jvm.Cond.and given_1 narrow_1).before #[Value.ref b] s = true

/-- the classes, array classes, tables and the text, as the start has them -/
theorem start_world {s : State} {b : Nat} (hts : ∀ w ∈ lw_tbl, w.before #[Value.ref b] s = true) (hgv : (Jvm.Cond.and given_1 narrow_1).before #[Value.ref b] s = true) : ∃ (d : Dd) (e : Ee), KT d s.heap.size s ∧ HE d s.heap.size e := by
  have hg : ∀ w ∈ gtbl, w.before #[Value.ref b] s = true := fun w hw => hts w (List.mem_filter.mp hw).1
  have ht : ∀ (i : Nat) (w : Cond), tables_1[i]? = some w → w.before #[Value.ref b] s = true := fun i w h => hts w (List.mem_append_right _ (List.mem_of_getElem? h))
  have hs := flat_of_before _ hgv
  have hA : ∀ a : Nat, a < s.heap.size → ¬ Ah s.heap.size a := fun a h q => absurd q (Nat.not_le.mpr h)
  obtain ⟨c0, i0, hK0⟩ := u_known (C := RX0) (T := TX0) (N := 4) hg inX0 (hg _ knX0)
  obtain ⟨c1, i1, hK1⟩ := u_known (C := RX1) (T := TX1) (N := 2) hg inX1 (hg _ knX1)
  obtain ⟨c2, i2, hK2⟩ := u_known (C := RX2) (T := TX2) (N := 3) hg inX2 (hg _ knX2)
  obtain ⟨c3, i3, hK3⟩ := u_known (C := RX3) (T := TX3) (N := 10) hg inX3 (hg _ knX3)
  obtain ⟨c4, i4, hK4⟩ := u_known (C := RX4) (T := TX4) (N := 1) hg inX4 (hg _ knX4)
  obtain ⟨c5, i5, hK5⟩ := u_known (C := RX5) (T := TX5) (N := 3) hg inX5 (hg _ knX5)
  obtain ⟨c6, i6, hK6⟩ := u_known (C := RX6) (T := TX6) (N := 4) hg inX6 (hg _ knX6)
  obtain ⟨c7, i7, hK7⟩ := u_known (C := RX7) (T := TX7) (N := 6) hg inX7 (hg _ knX7)
  obtain ⟨c8, i8, hK8⟩ := u_known (C := RX8) (T := TX8) (N := 3) hg inX8 (hg _ knX8)
  obtain ⟨c9, i9, hK9⟩ := u_known (C := RX9) (T := TX9) (N := 13) hg inX9 (hg _ knX9)
  obtain ⟨c10, i10, hK10⟩ := u_known (C := RX10) (T := TX10) (N := 11) hg inX10 (hg _ knX10)
  obtain ⟨c11, i11, hK11⟩ := u_known (C := RX11) (T := TX11) (N := 26) hg inX11 (hg _ knX11)
  obtain ⟨cI, kI, mI, fI, gI, hI⟩ := Cond.arrayClass_spec (ht 62 (.arrayClass .int) (by decide +kernel))
  obtain ⟨cB, kB, mB, fB, gB, hB⟩ := Cond.arrayClass_spec (ht 51 (.arrayClass .byte) (by decide +kernel))
  have aoW := ht 34 (.arrayOver (.object RX9)) (by decide +kernel)
  obtain ⟨mW, cW, kW, fW, -, gW, hW, jW⟩ := Cond.arrayOver_spec aoW
  have aoS := ht 30 (.arrayOver (.object RX7)) (by decide +kernel)
  obtain ⟨mS, cS, kS, fS, -, gS, hS, jS⟩ := Cond.arrayOver_spec aoS
  have aoH := ht 32 (.arrayOver (.object RX5)) (by decide +kernel)
  obtain ⟨mH, cH, kH, fH, -, gH, hH, jH⟩ := Cond.arrayOver_spec aoH
  have hlLEAST_TOLD : (Term.length (Term.static RX10 "LEAST_TOLD" "[I")).eval #[Value.ref b] s none [] s = some (.int (Int32.ofNat 7)) := va_eqt (hs (.eq (.length (Term.static RX10 "LEAST_TOLD" "[I")) (.int 7)) (by decide +kernel))
  have heLEAST_TOLD : ∀ j : Nat, j < 7 → (Term.elem (Term.static RX10 "LEAST_TOLD" "[I") (.int (Int32.ofNat j))).eval #[Value.ref b] s none [] s = some (vI (lstT.getD j 0)) := by
    intro j hj
    have hc : j = 0 ∨ j = 1 ∨ j = 2 ∨ j = 3 ∨ j = 4 ∨ j = 5 ∨ j = 6 := by omega
    rcases hc with rfl | rfl | rfl | rfl | rfl | rfl | rfl
    · exact va_eqt (hs (.eq (.elem (Term.static RX10 "LEAST_TOLD" "[I") (.int 0)) (.int 0)) (by decide +kernel))
    · exact va_eqt (hs (.eq (.elem (Term.static RX10 "LEAST_TOLD" "[I") (.int 1)) (.int 1)) (by decide +kernel))
    · exact va_eqt (hs (.eq (.elem (Term.static RX10 "LEAST_TOLD" "[I") (.int 2)) (.int 0)) (by decide +kernel))
    · exact va_eqt (hs (.eq (.elem (Term.static RX10 "LEAST_TOLD" "[I") (.int 3)) (.int 0)) (by decide +kernel))
    · exact va_eqt (hs (.eq (.elem (Term.static RX10 "LEAST_TOLD" "[I") (.int 4)) (.int 0)) (by decide +kernel))
    · exact va_eqt (hs (.eq (.elem (Term.static RX10 "LEAST_TOLD" "[I") (.int 5)) (.int 0)) (by decide +kernel))
    · exact va_eqt (hs (.eq (.elem (Term.static RX10 "LEAST_TOLD" "[I") (.int 6)) (.int 0)) (by decide +kernel))
  obtain ⟨tLEAST_TOLD, hvLEAST_TOLD, hTLEAST_TOLD⟩ := va_Tof (tm := (Term.static RX10 "LEAST_TOLD" "[I")) (ty := .int) (N := 7) (f := fun j => vI (lstT.getD j 0)) (A := Ah s.heap.size) (by decide) (hs (.arrayOf (Term.static RX10 "LEAST_TOLD" "[I") .int) (by decide +kernel)) hlLEAST_TOLD heLEAST_TOLD hA
  have hlMOST_TOLD : (Term.length (Term.static RX10 "MOST_TOLD" "[I")).eval #[Value.ref b] s none [] s = some (.int (Int32.ofNat 7)) := va_eqt (hs (.eq (.length (Term.static RX10 "MOST_TOLD" "[I")) (.int 7)) (by decide +kernel))
  have heMOST_TOLD : ∀ j : Nat, j < 7 → (Term.elem (Term.static RX10 "MOST_TOLD" "[I") (.int (Int32.ofNat j))).eval #[Value.ref b] s none [] s = some (vI (mstT.getD j 0)) := by
    intro j hj
    have hc : j = 0 ∨ j = 1 ∨ j = 2 ∨ j = 3 ∨ j = 4 ∨ j = 5 ∨ j = 6 := by omega
    rcases hc with rfl | rfl | rfl | rfl | rfl | rfl | rfl
    · exact va_eqt (hs (.eq (.elem (Term.static RX10 "MOST_TOLD" "[I") (.int 0)) (.int 9)) (by decide +kernel))
    · exact va_eqt (hs (.eq (.elem (Term.static RX10 "MOST_TOLD" "[I") (.int 1)) (.int 16)) (by decide +kernel))
    · exact va_eqt (hs (.eq (.elem (Term.static RX10 "MOST_TOLD" "[I") (.int 2)) (.int 999)) (by decide +kernel))
    · exact va_eqt (hs (.eq (.elem (Term.static RX10 "MOST_TOLD" "[I") (.int 3)) (.int 99)) (by decide +kernel))
    · exact va_eqt (hs (.eq (.elem (Term.static RX10 "MOST_TOLD" "[I") (.int 4)) (.int 3)) (by decide +kernel))
    · exact va_eqt (hs (.eq (.elem (Term.static RX10 "MOST_TOLD" "[I") (.int 5)) (.int 999)) (by decide +kernel))
    · exact va_eqt (hs (.eq (.elem (Term.static RX10 "MOST_TOLD" "[I") (.int 6)) (.int 16)) (by decide +kernel))
  obtain ⟨tMOST_TOLD, hvMOST_TOLD, hTMOST_TOLD⟩ := va_Tof (tm := (Term.static RX10 "MOST_TOLD" "[I")) (ty := .int) (N := 7) (f := fun j => vI (mstT.getD j 0)) (A := Ah s.heap.size) (by decide) (hs (.arrayOf (Term.static RX10 "MOST_TOLD" "[I") .int) (by decide +kernel)) hlMOST_TOLD heMOST_TOLD hA
  have hex := hs (.exactly (Term.string RX8 55) RJ0) (by decide +kernel)
  obtain ⟨ta, -, -, -, hta, -⟩ := Cond.exactly_spec (args := #[Value.ref b]) (first := s) (o := none) (s := s) (idx := []) (t := (Term.string RX8 55)) (cls := RJ0) hex
  have hco : (Term.field (Term.string RX8 55) RJ0 "coder" "B").eval #[Value.ref b] s none [] s = some (.int 0) := va_eqt (hs (.eq (.field (Term.string RX8 55) RJ0 "coder" "B") (.int 0)) (by decide +kernel))
  have hlV : (Term.length (Term.field (Term.string RX8 55) RJ0 "value" "[B")).eval #[Value.ref b] s none [] s = some (.int (Int32.ofNat 6)) := va_eqt (hs (.eq (.length (Term.field (Term.string RX8 55) RJ0 "value" "[B")) (.int 6)) (by decide +kernel))
  have heV : ∀ j : Nat, j < 6 → (Term.elem (Term.field (Term.string RX8 55) RJ0 "value" "[B") (.int (Int32.ofNat j))).eval #[Value.ref b] s none [] s = some (.int (ltrT.getD j 0)) := by
    intro j hj
    have hc : j = 0 ∨ j = 1 ∨ j = 2 ∨ j = 3 ∨ j = 4 ∨ j = 5 := by omega
    rcases hc with rfl | rfl | rfl | rfl | rfl | rfl
    · exact va_eqt (hs (.eq (.elem (Term.field (Term.string RX8 55) RJ0 "value" "[B") (.int 0)) (.int 99)) (by decide +kernel))
    · exact va_eqt (hs (.eq (.elem (Term.field (Term.string RX8 55) RJ0 "value" "[B") (.int 1)) (.int 108)) (by decide +kernel))
    · exact va_eqt (hs (.eq (.elem (Term.field (Term.string RX8 55) RJ0 "value" "[B") (.int 2)) (.int 116)) (by decide +kernel))
    · exact va_eqt (hs (.eq (.elem (Term.field (Term.string RX8 55) RJ0 "value" "[B") (.int 3)) (.int 100)) (by decide +kernel))
    · exact va_eqt (hs (.eq (.elem (Term.field (Term.string RX8 55) RJ0 "value" "[B") (.int 4)) (.int 110)) (by decide +kernel))
    · exact va_eqt (hs (.eq (.elem (Term.field (Term.string RX8 55) RJ0 "value" "[B") (.int 5)) (.int 102)) (by decide +kernel))
  obtain ⟨tV, hvV, hTV⟩ := va_Tof (tm := (Term.field (Term.string RX8 55) RJ0 "value" "[B")) (ty := .byte) (N := 6) (f := fun j => .int (ltrT.getD j 0)) (A := Ah s.heap.size) (by decide) (hs (.arrayOf (Term.field (Term.string RX8 55) RJ0 "value" "[B") .byte) (by decide +kernel)) hlV heV hA
  have hEX : EX s.heap.size (tLEAST_TOLD, tMOST_TOLD, ta, tV) s := by
    refine ⟨⟨va_AO.of aoS, va_AO.of aoH, va_AO.of aoW⟩, ⟨?_, ?_, ?_, ?_, ?_⟩, ⟨va_Zref (ht 270 _ (by decide +kernel)) (ht 1 _ (by decide +kernel)) hvLEAST_TOLD hA, hTLEAST_TOLD⟩, ⟨va_Zref (ht 272 _ (by decide +kernel)) (ht 1 _ (by decide +kernel)) hvMOST_TOLD hA, hTMOST_TOLD⟩, vk_R.of (ht 513 (.stringRef RX8 55 "cltdnf") (by decide +kernel)) hta, ⟨va_Oof hex hta hA, vk_OFof hta hco hA, vk_OFof hta hvV hA, hTV⟩, va_Zof (ht 527 (.laysStatic RJ0 "COMPACT_STRINGS" "Z") (by decide +kernel)) (ht 15 (.initialized RJ0) (by decide +kernel)) (va_eqt (hs (.eq (.static RJ0 "COMPACT_STRINGS" "Z") (.int 1)) (by decide +kernel))) hA⟩
    · exact va_Nw.of rfl (ht 37 (.methodLinkNest RX10 29 yX8_init RX10) (by decide +kernel))
    · exact va_Nw.of rfl (ht 73 (.methodLinkNest RX6 11 yX1_init RX10) (by decide +kernel))
    · exact va_Nw.of rfl (ht 147 (.methodLinkNest RX10 66 yX0_init RX10) (by decide +kernel))
    · exact va_Nw.of rfl (ht 166 (.methodLinkNest RX10 73 yX2_init RX10) (by decide +kernel))
    · exact va_Nw.of rfl (ht 211 (.methodLinkNest RX10 79 yX5_init RX10) (by decide +kernel))
  obtain ⟨dC, dI, hKc⟩ : ∃ (dC : Nat → ClassId) (dI : Nat → Nat → Nat), ∀ (k : Nat) (q : vw_C), kcls[k]? = some q → u_Kn s q.1 q.2.1 q.2.2 (dC k) (dI k) := by
    refine ⟨fun k => match k with | 0 => c0 | 1 => c1 | 2 => c2 | 3 => c3 | 4 => c4 | 5 => c5 | 6 => c6 | 7 => c7 | 8 => c8 | 9 => c9 | 10 => c10 | _ => c11, fun k => match k with | 0 => i0 | 1 => i1 | 2 => i2 | 3 => i3 | 4 => i4 | 5 => i5 | 6 => i6 | 7 => i7 | 8 => i8 | 9 => i9 | 10 => i10 | _ => i11, ?_⟩
    intro k q hq
    match k, hq with
    | 0, hq => cases hq; exact hK0
    | 1, hq => cases hq; exact hK1
    | 2, hq => cases hq; exact hK2
    | 3, hq => cases hq; exact hK3
    | 4, hq => cases hq; exact hK4
    | 5, hq => cases hq; exact hK5
    | 6, hq => cases hq; exact hK6
    | 7, hq => cases hq; exact hK7
    | 8, hq => cases hq; exact hK8
    | 9, hq => cases hq; exact hK9
    | 10, hq => cases hq; exact hK10
    | 11, hq => cases hq; exact hK11
    | k + 12, hq => simp [kcls] at hq
  refine ⟨((dC, dI), cI, cB, cW, cS, cH, fun U => EX s.heap.size (tLEAST_TOLD, tMOST_TOLD, ta, tV) U), (tLEAST_TOLD, tMOST_TOLD, ta, tV), ⟨⟨hKc, ?_⟩, hEX, fun u U h hW hq => h.moved hW hq⟩, fun U h => h⟩
  intro k q hq
  match k, hq with
  | 0, hq => cases hq; exact ⟨fun n z => ⟨fun k h => (by cases h), kI, gI, mI, hI⟩, fI⟩
  | 1, hq => cases hq; exact ⟨fun n z => ⟨fun k h => (by cases h), kB, gB, mB, hB⟩, fB⟩
  | 2, hq => cases hq; exact ⟨fun n z => ⟨fun k h => (by cases h), kW, gW, mW, hW⟩, kW, mW, gW, hW, fW, jW⟩
  | 3, hq => cases hq; exact ⟨fun n z => ⟨fun k h => (by cases h), kS, gS, mS, hS⟩, kS, mS, gS, hS, fS, jS⟩
  | 4, hq => cases hq; exact ⟨fun n z => ⟨fun k h => (by cases h), kH, gH, mH, hH⟩, kH, mH, gH, hH, fH, jH⟩
  | k + 5, hq => simp [dtys] at hq
theorem same_forget {s t : State} {L : List Loc} {k n : Nat} (h : s.sameButNew t L k n) (hL : ∀ q ∈ L, s.heap.size ≤ q.base) : s.sameButNew t [] k n := by
  obtain ⟨h1, h2, h3, h4, h5, h6⟩ := h
  refine ⟨h1, h2, h3, h4, h5, fun a c hc => ?_⟩
  obtain ⟨c', g1, g2, g3, g4⟩ := h6 a c hc
  refine ⟨c', g1, g2, g3, fun i _ => g4 i (fun hm => ?_)⟩
  have q1 : s.heap.size ≤ a := hL _ hm
  have q2 := (Array.getElem?_eq_some_iff.mp hc).1
  omega
/-- from the entry, for every script of at most 3072 ints, the law comes to its end with true -/
theorem whole_start {p : Program} {e : Env} {s : State} {m : MethodId} {below : List Frame} {meth : Method} {c : Code} (l : Launch) {b L : Nat} {xs : Nat → Int32} (hL : L ≤ 3072) (C0 : lw_At p s m meth c b L xs) : W p l e room_1 s m #[Value.ref b] below meth c s.heap [] 0 0 (lw_Z below #[Value.ref b] s) (entryFrame m ([Value.ref b] : List Value).toArray 4) := by
  obtain ⟨hx, hb, hr, hml, hown, hts, hX, hbl, hlocks, hgv⟩ := C0
  have hg : ∀ w ∈ gtbl, w.before #[Value.ref b] s = true := fun w hw => hts w (List.mem_filter.mp hw).1
  obtain ⟨d, ee, hK, hE⟩ := start_world hts hgv
  have hC : LwC ((d, 600000, 7302250), p, l, e, room_1, s, m, #[Value.ref b], below, meth, c) s.heap.size b L xs l d ee := ⟨⟨hx, hb, hml, hown, hg, hK, hr, hlocks, rfl, rfl, rfl, Nat.le_refl _⟩, rfl, rfl, hE, hX, hbl, hbl, hL⟩
  have hV := law_start hC
  have hl : lvL ((lg_sl [Value.ref b] ++ List.replicate (4 - (lg_sl [Value.ref b]).length) Slot.unset).toArray) [some (.ref b), none, none, none] := lv0_ok [Value.ref b] (n := 4) (Nat.le_of_ble_eq_true rfl)
  rw [lg_entry_eq]
  intro T hT X
  obtain ⟨t, a1, o, o1, o2, ⟨⟨v, N', I', hv, hp', -⟩, -⟩, Lq, o4, o5⟩ := hV s.heap [] _ ⟨Int.le_refl _, rfl, fun j hj => absurd hj (by omega)⟩ va_S.rf hl T hT X
  have hv1 : v = some (.int 1) := hp'
  subst hv1
  exact ⟨t, a1, o, o1, o2, hv, o4.1, o4.2.1, same_forget o4.2.2 o5⟩

set_option maxHeartbeats 4000000 in
theorem lw_walk (l : Launch) (b : Addr) (xs : List Int32) : MetFree l x (headSpec (Jvm.Cond.code x code maxLocals ret :: tables_1) room_1) (lw_P b xs) (fun _ _ _ _ _ => True) lw_Q := by
  refine MetFree.of_bodyS (code := code) (maxLocals := maxLocals) (ret := ret) (by decide) ?_ ?_
  · intro args s m h hn
    obtain ⟨meth, c, h1, h2, h3, h4, h5, h6, -, -⟩ := Cond.code_spec hn (atoms_spec (ws := Jvm.Cond.code x code maxLocals ret :: tables_1) h _ List.mem_cons_self)
    exact ⟨meth, c, h1, h2, h3, h4, h5, h6⟩
  · intro p e s m args below meth c s₁ B hml0 hP _
    obtain ⟨rfl, hx, hbd, hgv⟩ := hP
    obtain ⟨scr, harrAt, hlist, hof, hsmall⟩ := hx
    obtain ⟨hcb, hkn, -, -⟩ := State.arrayAt?_spec harrAt
    have hown : s.vm.findClass R_law = some m.cls := findClass_of_methodNamed B.named
    have hts0 : ∀ c ∈ (Jvm.Cond.code x code maxLocals ret :: tables_1), c.before #[Value.ref b] s = true := atoms_spec (ws := Jvm.Cond.code x code maxLocals ret :: tables_1) B.pre
    have hts : ∀ w ∈ lw_tbl, w.before #[Value.ref b] s = true := k2_hts_sels lw_privs (fun w hw => hts0 w (List.mem_cons_of_mem _ hw)) lw_privs_ok
    have hml : c.maxLocals = 4 := B.maxLocals_eq (hts0 _ List.mem_cons_self)
    have X₀ : Stand p l e room_1 s m #[Value.ref b] below meth c s₁ [] 0 0 := Stand.of_body B
    have hh0 : s₁.heap = s.heap := by rw [B.state]; rfl
    have hsz : scr.slots.size = xs.length := by rw [← Array.length_toList, hlist, List.length_map]
    have hval : ∀ j : Nat, j < xs.length → scr.slots[j]? = some (.int (xs.getD j 0)) := fun j hj => by
      rw [← Array.getElem?_toList, hlist]
      simp [hj]
    have hbl : b < s.heap.size := (Array.getElem?_eq_some_iff.mp hcb).1
    have hX : va_X b xs.length (fun j => xs.getD j 0) s s.heap := ⟨scr, hcb, hof, hkn, hsz, hval⟩
    have K : W p l e room_1 s m #[Value.ref b] below meth c s₁.heap [] 0 0 (lw_Z below #[Value.ref b] s) (entryFrame m ([Value.ref b] : List Value).toArray 4) := by
      rw [hh0]
      exact whole_start l hbd ⟨B.exec, B.bytes, B.returns, hml, hown, hts, hX, hbl, B.notSynchronized, hgv⟩
    obtain ⟨t, a1, o, b1, b2, b3⟩ := K s₁ rfl X₀
    exact ⟨t, o, a1, b1, b2, b3⟩
theorem lw_pre_spec {args : Array Value} {s : State} (h : (Jvm.Cond.and given_1 narrow_1).before args s = true) (hr : rest_1_c.before args s = true) : ∃ (b : Addr) (xs : List Int32), lw_P b xs args s := by
  have hs := flat_of_before _ h
  have hq := flat_of_before _ hr
  have hc : (Cond.count 1).before args s = true := hs _ (by decide +kernel)
  have harr : (Cond.arrayOf (.arg 0) .int).before args s = true := hs _ (by decide +kernel)
  have hle : (Cond.le (.length (.arg 0)) (.int 3072)).before args s = true := hs _ (by decide +kernel)
  have hlen : (Cond.isInt (.length (.arg 0))).before args s = true := hq _ (by decide +kernel)
  have hall : (Cond.all (.arg 0) (.isInt (.elem (.arg 0) (.index 0)))).before args s = true := hq _ (by decide +kernel)
  obtain ⟨b, xs, hb, hx⟩ := State.ints_of_pre rfl harr hlen hall
  have hsm : xs.length < 2 ^ 31 := hx.choose_spec.2.2.2
  have hev : (Term.length (.arg 0)).eval args s none [] s = some (.int xs.length.toInt32) := hx.length_eval hb
  have hv := Cond.le_ints hev (show (Term.int 3072).eval args s none [] s = some (.int 3072) from rfl)
  have hd : xs.length.toInt32 ≤ 3072 := by
    simpa [Cond.before, Cond.holds, hv] using hle
  have hN : xs.length ≤ 3072 := (Int32.ofNat_le_ofNat hsm (by decide)).mp (show Int32.ofNat xs.length ≤ Int32.ofNat 3072 from hd)
  exact ⟨b, xs, Cond.one_arg hc (show args[0]? = some (.ref b) from hb), hx, hN, h⟩
theorem lw_comes (l : Launch) : Comes l x (Jvm.Cond.code x code maxLocals ret :: tables_1) room_1 (fun tb e args s => Calls_1 tb e args s ∧ rest_1 tb e args s ∧ Pre_1 tb e args s)
    (fun _ _ args s o t => lw_Q args s o t) := by
  intro p e ha hc hk s m args below hf hfit hheap happ hpre
  obtain ⟨b, xs, hP⟩ := lw_pre_spec hpre.2.2 hpre.2.1
  obtain ⟨k, o, h1, h2, h3, hQ⟩ := lw_walk l b xs p e ha hc hk s m args below hf ((Spec.applies_iff_loose hf).mp happ).1 hP trivial
  exact ⟨k, o, h1, h2, h3, hQ⟩
theorem lw_frame {s t : State} {o : Outcome} {args : Array Value} (h : Framed s o t [] 600000 7302250) :
    Framed s o t (fieldLocs frame_1_writes args s ++ arrayLocs frame_1_arrays args s ++ staticLocs frame_1_statics s) 600000 7302250 := h
theorem lw_limb (L : Cond) (hL : ∀ (args : Array Value) (s t : State), L.after args s (.returned (some (.int 1))) t = true) :
    ArmFor flags0 classFile x code maxLocals ret World_1 tables_1 room_1 Calls_1 rest_1 Pre_1
      (fun tb e a s o t => postC L tb e a s o t ∧ Framed s o t (fieldLocs frame_1_writes a s ++ arrayLocs frame_1_arrays a s ++ staticLocs frame_1_statics s) 600000 7302250) := by
  intro l _ _ _ p e ha hc hk s m args below hf hfit hheap happ hpre
  obtain ⟨k, o, h1, h2, h3, rfl, hF⟩ := lw_comes l p e ha hc hk s m args below hf hfit hheap happ hpre
  exact ⟨k, _, h1, h2, h3, hL args s _, lw_frame hF⟩
theorem i_vc : Claimed_1_1 ∧ Claimed_1_2 := ⟨lw_limb limb_1_1 (fun args s t => by simp [limb_1_1, Cond.after, Cond.holds, Cond.value]), lw_limb limb_1_2 (fun args s t => Cond.after_iff.mpr (by
  first | (rw [show limb_1_2 = Cond.eq .result (.int 1) from rfl, Cond.eq_ints (x := 1) (y := 1) rfl rfl]; simp; done) | (simp [limb_1_2, Cond.value, Term.eval]; done)))⟩

