/-! ===== cells that are made ===== -/
theorem hp.agree {d : Dd} {z : Nat} {N : Int} {I J : Mm} {H : Heap} (h : hp d z N I H) (e : ∀ a : Int, 0 ≤ a → a < N → I a = J a) : hp d z N J H := by
  refine ⟨h.1, h.2.1, fun j hj => ?_⟩
  rw [← e j (by omega) hj]
  exact h.2.2 j hj
theorem V_agree {x : Cx} {z : Nat} {Po : Pst} {N : Int} {I : Mm} {k n pc : Nat} {L : List (Option Value)} {st : List Value} (J : Mm) (e : ∀ a : Int, 0 ≤ a → a < N → I a = J a) (kk : V x z Po N J k n pc L st) : V x z Po N I k n pc L st :=
  fun H locs ls hP hS hl => kk H locs ls (hP.agree e) hS hl
section VN
variable {x : Cx} {z : Nat} {own : String} {cc : ByteArray} {nL : Nat} {ret : Option FieldType} {fr lo mc ms : Nat} {Po : Pst} {N : Int} {I : Mm} {k n pc : Nat} {L : List (Option Value)} {st : List Value}
theorem S_new {z : Nat} {H0 H H1 : Heap} {locs : List Loc} (hS : va_S (Ah z) H0 H locs) (z1 : H1.size = H.size + 1) (o1 : ∀ q : Nat, q < H.size → H1[q]? = H[q]?) : va_S (Ah z) H0 H1 locs :=
  ⟨Nat.le_trans hS.1 (by omega), fun q h1 h2 => (o1 q (Nat.lt_of_lt_of_le h1 hS.1)).trans (hS.2.1 q h1 h2), hS.2.2⟩
theorem V_newO (hx : OK x z own cc nL ret fr lo mc ms) {idx ci M : Nat} {C : String} {T : u_T} (f : Int → Int) (hc : kcls[ci]? = some (C, T, M)) (hlk : Cond.classLink own idx C ∈ gtbl) (hn : Cond.instantiable C M ∈ gtbl) (hi : Cond.initialized C ∈ gtbl) (hd : decode cc pc = .ok (.new idx, 3)) (h0 : 0 ≤ N) (hs : shp N.toNat = (0, ci)) (hf : ∀ j : Nat, j < M → defaultValue (fty ci j) = fv z ci j (f j)) (hr : k + 1 ≤ mc ∧ n + M ≤ ms)
    (kk : V x z Po (N + 1) (upR I N f) (k + 1) (n + M) (pc + 3) L (vR z N :: st)) : V x z Po N I k n pc L st := by
  intro H locs ls hP hS hl
  have hts := hx.2.2.2.2.1
  have hKn := hx.2.2.2.2.2.1.1.1 ci _ hc
  have hroom := hx.room hr
  refine W.newcK hx.1 hx.2.1 hx.2.2.2.1 (hts _ hlk) (hts _ hn) (hts _ hi) rfl hd hroom.1 hroom.2 hKn.2.1 rfl fun H1 kC hkC e1 z1 o1 => ?_
  have hz : H.size = z + N.toNat := hP.2.1
  have := kk H1 locs ls (hP.new hs z1 o1 ?_) (S_new hS z1 o1) hl
  · rw [vR_ref h0] at this
    rw [hz]
    exact this
  · rw [← hz]
    refine ⟨_, hc, (u_born (fty ci) hts (inC ci _ hc) hKn hkC e1 (tyC ci _ hc)).to (fun j hj => ?_)⟩
    rw [hf j hj]
    have : j < nf ci := by rw [nf_eq hc]; exact hj
    unfold vp_V
    rw [List.getD_eq_getElem?_getD, flds_get this]
    rfl
theorem V_newI (hx : OK x z own cc nL ret fr lo mc ms) {m : Nat} (hd : decode cc pc = .ok (.newarray .int, 2)) (h0 : 0 ≤ N) (hs : shp N.toNat = (1, m)) (hm : m ≤ 100000) (hr : k + 1 ≤ mc ∧ n + m ≤ ms)
    (kk : V x z Po (N + 1) (upR I N (fun _ => 0)) (k + 1) (n + m) (pc + 2) L (vR z N :: st)) : V x z Po N I k n pc L (vI (m : Int) :: st) := by
  intro H locs ls hP hS hl
  have hts := hx.2.2.2.2.1
  have hroom := hx.room hr
  have e : (Int32.ofInt (m : Int)).toNatClampNeg = m := by rw [oI_clamp (by omega)]; omega
  refine va_newaK (atype := .int) hx.1 hx.2.1 (hts _ kArr.1) rfl hd rfl (by rw [Int32.lt_iff_toInt_lt, oI_rt (by omega)]; show ¬ (m : Int) < 0; omega) e (by show m * 4 ≤ _; omega) hroom.1 hroom.2 rfl fun H1 cA e1 z1 o1 hAr hNm => ?_
  have hcA : cA = (xd x).2.1 := Option.some.inj (hNm.symm.trans (hx.2.2.2.2.2.1.1.2 0 _ rfl).2)
  have hz : H.size = z + N.toNat := hP.2.1
  have := kk H1 locs ls (hP.new hs z1 o1 ?_) (S_new hS z1 o1) hl
  · rw [vR_ref h0] at this
    rw [hz]
    exact this
  · rw [← hz]
    show H1[H.size]? = some (vp_cell _ _)
    rw [vp_cell_i, e1, hcA]
    rfl
theorem V_newB (hx : OK x z own cc nL ret fr lo mc ms) {m : Nat} (hd : decode cc pc = .ok (.newarray .byte, 2)) (h0 : 0 ≤ N) (hs : shp N.toNat = (2, m)) (hm : m ≤ 100000) (hr : k + 1 ≤ mc ∧ n + m ≤ ms)
    (kk : V x z Po (N + 1) (upR I N (fun _ => 0)) (k + 1) (n + m) (pc + 2) L (vR z N :: st)) : V x z Po N I k n pc L (vI (m : Int) :: st) := by
  intro H locs ls hP hS hl
  have hts := hx.2.2.2.2.1
  have hroom := hx.room hr
  have e : (Int32.ofInt (m : Int)).toNatClampNeg = m := by rw [oI_clamp (by omega)]; omega
  refine va_newaK (atype := .byte) hx.1 hx.2.1 (hts _ kArr.2) rfl hd rfl (by rw [Int32.lt_iff_toInt_lt, oI_rt (by omega)]; show ¬ (m : Int) < 0; omega) e (by show m * 1 ≤ _; omega) hroom.1 hroom.2 rfl fun H1 cA e1 z1 o1 hAr hNm => ?_
  have hcA : cA = (xd x).2.2.1 := Option.some.inj (hNm.symm.trans (hx.2.2.2.2.2.1.1.2 1 _ rfl).2)
  have hz : H.size = z + N.toNat := hP.2.1
  have := kk H1 locs ls (hP.new hs z1 o1 ?_) (S_new hS z1 o1) hl
  · rw [vR_ref h0] at this
    rw [hz]
    exact this
  · rw [← hz]
    show H1[H.size]? = some (vp_cell _ _)
    rw [vp_cell_i, e1, hcA]
    rfl
theorem V_newR (hx : OK x z own cc nL ret fr lo mc ms) {m s idx t0 : Nat} {C : String} {cA0 : ClassId} (hd : decode cc pc = .ok (.anewarray idx, 3)) (h0 : 0 ≤ N) (hs : shp N.toNat = (s, m)) (hm : m ≤ 100000) (hlk : Cond.classLink own idx C ∈ gtbl) (hAO : va_AO C (xs x)) (ht : (dtys (xd x))[t0]? = some (cA0, .object C)) (hlc : ∀ f, lcs (xd x) z (s, m) f = .inl (cA0, m, .inr (.inr (.inr (.inr (fun k => vO z (f k))))))) (hr : k + 1 ≤ mc ∧ n + m ≤ ms)
    (kk : V x z Po (N + 1) (upR I N (fun _ => -1)) (k + 1) (n + m) (pc + 3) L (vR z N :: st)) : V x z Po N I k n pc L (vI (m : Int) :: st) := by
  intro H locs ls hP hS hl
  have hts := hx.2.2.2.2.1
  have hroom := hx.room hr
  have e : (Int32.ofInt (m : Int)).toNatClampNeg = m := by rw [oI_clamp (by omega)]; omega
  refine W.anew hx.1 hx.2.1 hx.2.2.2.1 (hts _ hlk) (va_AO.use hAO) rfl hd rfl (by rw [Int32.lt_iff_toInt_lt, oI_rt (by omega)]; show ¬ (m : Int) < 0; omega) (by rw [e]; omega) hroom.1 (by rw [e]; exact hroom.2) fun cA kA comp f1 f2 f3 f4 => ?_
  rw [e]
  generalize hH1 : H.push ({ cls := cA, slots := Array.replicate m .null, vm := .none } : Cell) = H1
  have z1 : H1.size = H.size + 1 := by rw [← hH1, Array.size_push]
  have e1 : H1[H.size]? = some (arrV cA m (fun _ => .null)) := by rw [← hH1, Array.getElem?_push_size, ← arrV_new]
  have o1 : ∀ q : Nat, q < H.size → H1[q]? = H[q]? := fun q hq => by rw [← hH1, Array.getElem?_push, if_neg (Nat.ne_of_lt hq)]
  obtain ⟨-, -, -, -, -, k4⟩ := (hx.2.2.2.2.2.1.1.2 t0 _ ht).2
  have hcA : cA = cA0 := Option.some.inj (f1.symm.trans k4)
  have hz : H.size = z + N.toNat := hP.2.1
  have := kk H1 locs ls (hP.new hs z1 o1 ?_) (S_new hS z1 o1) hl
  · rw [vR_ref h0] at this
    rw [hz]
    exact this
  · rw [← hz, hlc]
    show H1[H.size]? = some (vp_cell _ _)
    rw [vp_cell_q, e1, hcA]
    rfl
end VN
