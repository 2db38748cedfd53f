/-! ===== System.arraycopy between rows of ints ===== -/
theorem clamp_nn {z : Int32} (hz : ¬ z < 0) : z.toInt = (z.toNatClampNeg : Int) := by
  have hz0 : (0 : Int) ≤ z.toInt := by
    have := Int32.not_lt.mp hz
    simpa using Int32.le_iff_toInt_le.mp this
  show z.toInt = ((z.toInt.toNat : Nat) : Int)
  omega
theorem cpy_eq {f g : Int → Int} {i j c : Int} (hi : 0 ≤ i) (hj : 0 ≤ j) (hc : 0 ≤ c) : va_cpy (fun k : Nat => Int32.ofInt (f k)) (fun k : Nat => Int32.ofInt (g k)) i.toNat j.toNat c.toNat = fun k : Nat => Int32.ofInt (if j ≤ (k : Int) ∧ (k : Int) < j + c then f (i + ((k : Int) - j)) else g k) := by
  funext q
  unfold va_cpy
  by_cases h : j.toNat ≤ q ∧ q < j.toNat + c.toNat
  · rw [if_pos h, if_pos (by omega)]
    have : ((i.toNat + (q - j.toNat) : Nat) : Int) = i + ((q : Int) - j) := by omega
    show Int32.ofInt (f ((i.toNat + (q - j.toNat) : Nat) : Int)) = _
    rw [this]
  · rw [if_neg h, if_neg (by omega)]
theorem V_copyI {x : Cx} {z : Nat} {own : String} {cc : ByteArray} {nL : Nat} {ret : Option FieldType} {fr lo mc ms : Nat} {Po : Pst} {N : Int} {I : Mm} {k n pc : Nat} {L : List (Option Value)} {st : List Value} (hx : OK x z own cc nL ret fr lo mc ms) {idx m m' : Nat} {a b i j c : Int}
    (hlk : Cond.methodLink own idx arraycopyName ∈ gtbl) (hnat : Cond.native arraycopyName ∈ gtbl) (hsta : Cond.static arraycopyName ∈ gtbl) (hd : decode cc pc = .ok (.invokestatic idx, 3)) (ha : shk N a (1, m)) (hb : shk N b (1, m')) (hm : m ≤ 100000) (hm' : m' ≤ 100000) (hi : 0 ≤ i ∧ i + c ≤ m) (hj : 0 ≤ j ∧ j + c ≤ m') (hc : 0 ≤ c) (hfr : 1 ≤ fr) (hlo : (st.map fun v => v.category).sum + (nativeFrameWords "java/lang/System" "arraycopy" 5 + 11) ≤ lo) (hLn : L.length = nL)
    (kk : V x z Po N (upR I b (fun q => if j ≤ q ∧ q < j + c then I a (i + (q - j)) else I b q)) k n (pc + 3) L st) : V x z Po N I k n pc L (vI c :: vI j :: vR z b :: vI i :: vR z a :: st) := by
  intro H locs ls hP hS hl T hT X
  have hts := hx.2.2.2.2.1
  have hK := hx.2.2.2.2.2.1.1
  have hc0 : H[z + a.toNat]? = some (vp_cell (xd x).2.1 (m, .inl (fun k => Int32.ofInt (I a k)))) := hP.at ha
  have hc1 : H[z + b.toNat]? = some (vp_cell (xd x).2.1 (m', .inl (fun k => Int32.ofInt (I b k)))) := hP.at hb
  obtain ⟨-, k0, hk0, cm0, hkk0⟩ := (hK.2 0 _ rfl).1 m (fun j => .int (Int32.ofInt (I a j)))
  have ei : (Int32.ofInt i).toNatClampNeg = i.toNat := oI_clamp (by omega)
  have ej : (Int32.ofInt j).toNatClampNeg = j.toNat := oI_clamp (by omega)
  have ec : (Int32.ofInt c).toNatClampNeg = c.toNat := oI_clamp (by omega)
  have ni : ¬ Int32.ofInt i < 0 := by rw [Int32.lt_iff_toInt_lt, oI_rt (by omega)]; show ¬ i < 0; omega
  have nj : ¬ Int32.ofInt j < 0 := by rw [Int32.lt_iff_toInt_lt, oI_rt (by omega)]; show ¬ j < 0; omega
  have ncc : ¬ Int32.ofInt c < 0 := by rw [Int32.lt_iff_toInt_lt, oI_rt (by omega)]; show ¬ c < 0; omega
  rw [vR_ref ha.1, vR_ref hb.1]
  obtain ⟨vm', X', step⟩ := X.arraycopy hx.1 hx.2.2.2.1 (hts _ hlk) (hts _ hnat) (hts _ hsta) (hts _ kiJ10) (src := z + a.toNat) (dst := z + b.toNat) (cs := vp_cell (xd x).2.1 (m, .inl (fun k => Int32.ofInt (I a k)))) (cd := vp_cell (xd x).2.1 (m', .inl (fun k => Int32.ofInt (I b k)))) (srcPos := Int32.ofInt i) (destPos := Int32.ofInt j) (n := Int32.ofInt c) (by rw [hT]; exact hc0) (by rw [hT]; exact hc1)
    (fun _ h => by cases h) (fun _ h => by cases h) (fun h => by cases h) (fun h => by cases h) hk0 hk0 hkk0 hkk0 (by simp [refKind]) ni nj ncc
    (by rw [clamp_nn ni, clamp_nn ncc, ei, ec]; show ¬ _ > ((arrV _ m (fun j => .int (Int32.ofInt (I a j)))).slots.size : Int); rw [arrV_size]; omega)
    (by rw [clamp_nn nj, clamp_nn ncc, ej, ec]; show ¬ _ > ((arrV _ m' (fun j => .int (Int32.ofInt (I b j)))).slots.size : Int); rw [arrV_size]; omega)
    (fun vm₁ _ q hq => by
      rw [ec] at hq
      have e : (vp_cell (xd x).2.1 (m, .inl (fun k => Int32.ofInt (I a k)))).slots.getD ((Int32.ofInt i).toNatClampNeg + q) .null = .int (Int32.ofInt (I a ((i.toNat + q : Nat) : Int))) := by
        show (arrV _ m (fun j => .int (Int32.ofInt (I a j)))).slots.getD _ _ = _
        rw [ei, Array.getD_eq_getD_getElem?, arrV_read _ _ (by omega)]
        rfl
      refine ⟨?_, ?_⟩
      · rw [e]; rfl
      · rw [e]; exact trivial)
    (g := F0 (xm x) pc ls (.int (Int32.ofInt c) :: .int (Int32.ofInt j) :: .ref (z + b.toNat) :: .int (Int32.ofInt i) :: .ref (z + a.toNat) :: st)) rfl (by rw [hx.2.2.1, ← hLn, ← hl.1]) (rest := st) rfl (by rw [hx.2.1]; exact hd) (by rw [hx.2.2.2.2.2.2.2.2.1]; exact hfr) (by rw [hx.2.2.2.2.2.2.2.2.1]; show 2 * 0 + _ + _ ≤ lo; omega)
  have e1 : copied (vp_cell (xd x).2.1 (m, .inl (fun k => Int32.ofInt (I a k)))) (vp_cell (xd x).2.1 (m', .inl (fun k => Int32.ofInt (I b k)))) (Int32.ofInt i) (Int32.ofInt j) (Int32.ofInt c) = vp_cell (xd x).2.1 (m', .inl (fun k => Int32.ofInt (if j ≤ (k : Int) ∧ (k : Int) < j + c then I a (i + ((k : Int) - j)) else I b k))) := by
    rw [← cpy_eq hi.1 hj.1 hc, ← ei, ← ej, ← ec]
    have hh : (Int32.ofInt i).toNatClampNeg + (Int32.ofInt c).toNatClampNeg ≤ m := by rw [ei, ec]; omega
    exact va_copied (n1 := m') (dp := (Int32.ofInt j).toNatClampNeg) (fun z => .int z) (xd x).2.1 (xd x).2.1 (fun k : Nat => Int32.ofInt (I a k)) (fun k : Nat => Int32.ofInt (I b k)) hh
  rw [e1] at X' step
  have hlt : z + b.toNat < H.size := (Array.getElem?_eq_some_iff.mp hc1).1
  generalize hC : vp_cell (xd x).2.1 (m', .inl (fun k : Nat => Int32.ofInt (if j ≤ (k : Int) ∧ (k : Int) < j + c then I a (i + ((k : Int) - j)) else I b k))) = C at X' step
  have hheap : ((T.setVm vm').setCell (z + b.toNat) C).heap = H.setIfInBounds (z + b.toNat) C := by rw [← hT]; rfl
  have oq : ∀ q : Nat, q ≠ z + b.toNat → (H.setIfInBounds (z + b.toNat) C)[q]? = H[q]? := fun q hq => by simp [Array.getElem?_setIfInBounds, Ne.symm hq]
  obtain ⟨t, a1, b1⟩ := kk _ _ ls (hP.putR hb (by simp) oq (show (H.setIfInBounds (z + b.toNat) C)[z + b.toNat]? = some _ by rw [← hC]; simp [Array.getElem?_setIfInBounds, hlt])) ⟨by simp; exact hS.1, fun q g1 g2 => by
      rw [oq q (fun e => g2 (by rw [e]; exact Nat.le_add_right _ _))]
      exact hS.2.1 q g1 g2, fun q hq => by
      rcases List.mem_append.mp hq with h | h
      · exact hS.2.2 q h
      · obtain ⟨w, -, hw⟩ := List.mem_map.mp h
        rw [← hw]
        exact Nat.le_add_right _ _⟩ hl _ hheap X'
  exact ⟨t, step t a1, b1⟩
theorem knCopy : Cond.methodLink RX10 314 arraycopyName ∈ gtbl ∧ Cond.native arraycopyName ∈ gtbl ∧ Cond.static arraycopyName ∈ gtbl := ⟨gm 892 (by decide +kernel) rfl, gm 894 (by decide +kernel) rfl, gm 893 (by decide +kernel) rfl⟩
