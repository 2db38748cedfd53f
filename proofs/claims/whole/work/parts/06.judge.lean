/-! ===== the judgement V: a method at a place, over the logical memory ===== -/
abbrev Cx : Type := (Dd × Nat × Nat) × Program × Launch × Env × Room × State × MethodId × Array Value × List Frame × Method × Code
abbrev xd (x : Cx) : Dd := x.1.1
abbrev xmc (x : Cx) : Nat := x.1.2.1
abbrev xms (x : Cx) : Nat := x.1.2.2
abbrev xp (x : Cx) : Program := x.2.1
abbrev xl (x : Cx) : Launch := x.2.2.1
abbrev xe (x : Cx) : Env := x.2.2.2.1
abbrev xR (x : Cx) : Room := x.2.2.2.2.1
abbrev xs (x : Cx) : State := x.2.2.2.2.2.1
abbrev xm (x : Cx) : MethodId := x.2.2.2.2.2.2.1
abbrev xa (x : Cx) : Array Value := x.2.2.2.2.2.2.2.1
abbrev xb (x : Cx) : List Frame := x.2.2.2.2.2.2.2.2.1
abbrev xt (x : Cx) : Method := x.2.2.2.2.2.2.2.2.2.1
abbrev xc (x : Cx) : Code := x.2.2.2.2.2.2.2.2.2.2
abbrev Pst : Type := Option Value → Int → Mm → Prop
def Qo (d : Dd) (z : Nat) (Po : Pst) : Array Value → State → Outcome → State → Prop := fun _ st oc t => (∃ (v : Option Value) (N : Int) (I : Mm), oc = .returned v ∧ Po v N I ∧ hp d z N I t.heap) ∧ va_F (Ah z) st t
def V (x : Cx) (z : Nat) (Po : Pst) (N : Int) (I : Mm) (k n pc : Nat) (L : List (Option Value)) (st : List Value) : Prop :=
  ∀ (H : Heap) (locs : List Loc) (ls : Array Slot), hp (xd x) z N I H → va_S (Ah z) (xs x).heap H locs → lvL ls L →
    W (xp x) (xl x) (xe x) (xR x) (xs x) (xm x) (xa x) (xb x) (xt x) (xc x) H locs k n (MQ (xb x) (Qo (xd x) z Po) (xa x) (xs x) (xmc x) (xms x) (Ah z)) (F0 (xm x) pc ls st)
/-- what holds in a method of class own with code cc, nL locals, answer ret, room fr lo mc ms -/
def OK (x : Cx) (z : Nat) (own : String) (cc : ByteArray) (nL : Nat) (ret : Option FieldType) (fr lo mc ms : Nat) : Prop :=
  (xp x).tables.exec = Jvm.exec ∧ (xc x).code = cc ∧ (xc x).maxLocals = nL ∧ (xs x).vm.findClass own = some (xm x).cls ∧ (∀ w ∈ gtbl, w.before (xa x) (xs x) = true) ∧
  KT (xd x) z (xs x) ∧ (xt x).sig.returnType = ret ∧ (xt x).locks = false ∧ xR x = { frames := fr, cells := mc, slots := ms, locals := lo } ∧ xmc x = mc ∧ xms x = ms ∧ z ≤ (xs x).heap.size
/-- a contract, at given arguments and memory -/
def Cn (l : Launch) (d : Dd) (z : Nat) (y : MethodName) (cc : ByteArray) (nL : Nat) (ret : Option FieldType) (fr lo mc ms : Nat) (args : List Value) (N : Int) (I : Mm) (Po : Pst) : Prop :=
  Met l y (Cond.code y cc nL ret :: gtbl) { frames := fr, cells := mc, slots := ms, locals := lo } (va_Pc args (fun U => hp d z N I U.heap ∧ KT d z U)) (Qo d z Po) mc ms (Ah z)
def lvf (args : List Value) : List (Option Value) := args.flatMap fun v => if v.category = 2 then [some v, none] else [some v]
def lv0 (args : List Value) (n : Nat) : List (Option Value) := (lvf args) ++ List.replicate (n - (lg_sl args).length) none
theorem lv0_flat : ∀ (args : List Value), (lvf args).length = (lg_sl args).length ∧ ∀ (i : Nat) (v : Value), (lvf args)[i]? = some (some v) → (lg_sl args)[i]? = some (.val v)
  | [] => by simp [lg_sl, lvf]
  | a :: r => by
    obtain ⟨h1, h2⟩ := lv0_flat r
    unfold lg_sl lvf at h1 h2 ⊢
    rw [List.flatMap_cons, List.flatMap_cons]
    by_cases hc : a.category = 2
    · rw [if_pos hc, if_pos hc]
      refine ⟨by simp [h1], fun i v h => ?_⟩
      match i, h with
      | 0, h => simp at h; simp [h]
      | 1, h => simp at h
      | i + 2, h => simpa using h2 i v (by simpa using h)
    · rw [if_neg hc, if_neg hc]
      refine ⟨by simp [h1], fun i v h => ?_⟩
      match i, h with
      | 0, h => simp at h; simp [h]
      | i + 1, h => simpa using h2 i v (by simpa using h)
theorem lv0_ok (args : List Value) {n : Nat} (h : (lg_sl args).length ≤ n) : lvL ((lg_sl args ++ List.replicate (n - (lg_sl args).length) Slot.unset).toArray) (lv0 args n) := by
  have hh := lv_entry args h
  obtain ⟨h1, h2⟩ := lv0_flat args
  refine ⟨by rw [hh.1]; unfold lv0; rw [List.length_append, h1, List.length_replicate]; omega, hh.2.1, fun i v hi => ?_⟩
  unfold lv0 at hi
  have hlt : i < (lvf args).length := by
    rcases Nat.lt_or_ge i (lvf args).length with q | q
    · exact q
    · rw [List.getElem?_append_right q] at hi
      have := List.mem_of_getElem? hi
      rw [List.mem_replicate] at this
      cases this.2
  rw [List.getElem?_append_left hlt] at hi
  have := h2 i v hi
  have h3 : i < (lg_sl args).length := by rw [← h1]; exact hlt
  rw [List.getElem?_toArray, List.getElem?_append_left h3]
  exact this
/-- a contract out of a walk -/
theorem Cn.ofV {l : Launch} {d : Dd} {z : Nat} {y : MethodName} {cc : ByteArray} {nL : Nat} {ret : Option FieldType} {fr lo mc ms : Nat} {args : List Value} {N : Int} {I : Mm} {Po : Pst} {L : List (Option Value)} {own : String}
    (hy : plainName y.cls = true) (ho : y.cls = own) (hn : (lg_sl args).length ≤ nL) (hL : lv0 args nL = L)
    (body : ∀ x : Cx, xd x = d → xl x = l → OK x z own cc nL ret fr lo mc ms → (y.name = "<init>" → (xt x).name = "<init>") → V x z Po N I 0 0 0 L []) : Cn l d z y cc nL ret fr lo mc ms args N I Po := by
  refine Met.ofW (cc := cc) (maxL := nL) (ret := ret) hy rfl ?_
  intro p e s m a below meth c s₁ B hml hv
  obtain ⟨rfl, hP, hK⟩ := hv
  have hts : ∀ w ∈ gtbl, w.before args.toArray s = true := fun w hw => atoms_spec (ws := Cond.code y cc nL ret :: gtbl) B.pre w (List.mem_cons_of_mem _ hw)
  have hown : s.vm.findClass own = some m.cls := by rw [← ho]; exact findClass_of_methodNamed B.named
  rw [lg_entry_eq]
  subst hL
  exact body ((d, mc, ms), p, l, e, { frames := fr, cells := mc, slots := ms, locals := lo }, s, m, args.toArray, below, meth, c) rfl rfl
    ⟨B.exec, B.bytes, hml, hown, hts, hK, B.returns, B.notSynchronized, rfl, rfl, rfl, by rw [hP.2.1]; omega⟩ (fun h => by have := (name_of_methodNamed B.named B.method).1; rw [this]; exact h) s.heap [] _ hP va_S.rf (lv0_ok args hn)
theorem Cn.weaken {l : Launch} {d : Dd} {z : Nat} {y : MethodName} {cc : ByteArray} {nL : Nat} {ret : Option FieldType} {fr lo mc ms : Nat} {args : List Value} {N : Int} {I : Mm} {Po Po' : Pst}
    (h : Cn l d z y cc nL ret fr lo mc ms args N I Po) (hP : ∀ v N' I', Po v N' I' → Po' v N' I') : Cn l d z y cc nL ret fr lo mc ms args N I Po' := by
  intro p e ha hc hk s m a below hf h1 h2 h3
  obtain ⟨k, o, g1, g2, g3, ⟨⟨v, N', I', q1, q2, q3⟩, q4⟩, q5⟩ := h p e ha hc hk s m a below hf h1 h2 h3
  exact ⟨k, o, g1, g2, g3, ⟨⟨v, N', I', q1, hP _ _ _ q2, q3⟩, q4⟩, q5⟩
