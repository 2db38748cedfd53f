/-! ===== fields, arrays, calls over the logical memory ===== -/
section VM
variable {x : Cx} {z : Nat} {own : String} {cc : ByteArray} {nL : Nat} {ret : Option FieldType} {fr lo mc ms : Nat} {Po : Pst} {N : Int} {I : Mm} {k n pc : Nat} {L : List (Option Value)} {st : List Value}
theorem V_get (hx : OK x z own cc nL ret fr lo mc ms) {idx ci f : Nat} {a : Int} (fl : FL own idx ci f) (hd : decode cc pc = .ok (.getfield idx, 3)) (ha : shk N a (0, ci)) (kk : V x z Po N I k n (pc + 3) L (fv z ci f (I a f) :: st)) : V x z Po N I k n pc L (vR z a :: st) := by
  intro H locs ls hP hS hl
  obtain ⟨r, hr, hf, hlk⟩ := fl
  obtain ⟨C, T, M⟩ := r
  have h1 := hP.at ha
  rw [vR_ref ha.1]
  refine va_get (ws := [(z + a.toNat, .inr (ci, flds z ci (I a)))]) hx.1 hx.2.1 hx.2.2.2.2.1 (inC ci _ hr) hx.2.2.2.1 hx.2.2.2.2.2.1.1 (P1 h1) 0 rfl hr f hf (hx.2.2.2.2.1 _ hlk) (fun _ h => h) (flds_get (by rw [nf_eq hr]; exact hf)) hd ?_
  exact kk H locs ls hP hS hl
theorem V_getI (hx : OK x z own cc nL ret fr lo mc ms) {idx ci f : Nat} {a : Int} (fl : FL own idx ci f) (hd : decode cc pc = .ok (.getfield idx, 3)) (ht : isI (fty ci f) = true) (ha : shk N a (0, ci)) (kk : V x z Po N I k n (pc + 3) L (vI (I a f) :: st)) : V x z Po N I k n pc L (vR z a :: st) :=
  V_get hx fl hd ha (by unfold fv; rw [if_pos ht]; exact kk)
theorem V_getR (hx : OK x z own cc nL ret fr lo mc ms) {idx ci f : Nat} {a : Int} (fl : FL own idx ci f) (hd : decode cc pc = .ok (.getfield idx, 3)) (ht : isI (fty ci f) = false) (ha : shk N a (0, ci)) (kk : V x z Po N I k n (pc + 3) L (vR z (I a f) :: st)) : V x z Po N I k n pc L (vR z a :: st) :=
  V_get hx fl hd ha (by unfold fv; rw [if_neg (by rw [ht]; decide)]; exact kk)
/-- the value of a field's type -/
theorem fv_ok {ci f : Nat} {v : Int} (hc : isI (fty ci f) = true ∨ (∃ C, fty ci f = .object C) ∨ ∃ t, fty ci f = .array t) : narrow (fty ci f) (fv z ci f v) = fv z ci f v ∧ fits (fty ci f) (fv z ci f v) = true := by
  unfold fv
  rcases hc with h | ⟨C, h⟩ | ⟨t, h⟩
  · rw [if_pos h]
    cases hh : fty ci f <;> simp [hh, isI] at h
    exact ⟨rfl, rfl⟩
  · rw [h, if_neg (by simp [isI])]
    rcases Int.lt_or_le v 0 with q | q
    · rw [vR_null q]; exact ⟨rfl, rfl⟩
    · rw [vR_ref q]; exact ⟨rfl, rfl⟩
  · rw [h, if_neg (by simp [isI])]
    rcases Int.lt_or_le v 0 with q | q
    · rw [vR_null q]; exact ⟨rfl, rfl⟩
    · rw [vR_ref q]; exact ⟨rfl, rfl⟩
theorem flds_set {z ci f : Nat} {g : Int → Int} {v : Int} (hf : f < nf ci) : (flds z ci g).set f (fv z ci f v) = flds z ci (fun q => if q = (f : Int) then v else g q) := by
  apply List.ext_getElem?
  intro j
  by_cases hj : j < nf ci
  · by_cases hjf : j = f
    · subst hjf
      rw [List.getElem?_set_self (by rw [flds_len]; exact hj), flds_get hj]
      simp
    · rw [List.getElem?_set_ne (Ne.symm hjf), flds_get hj, flds_get hj]
      have : ¬ ((j : Int) = (f : Int)) := by omega
      simp [this]
  · rw [List.getElem?_eq_none (by rw [List.length_set, flds_len]; omega), List.getElem?_eq_none (by rw [flds_len]; omega)]
theorem up_self (I : Mm) (a k v : Int) : up I a k v a = fun q => if q = k then v else I a q := by
  funext q
  simp [up]
theorem V_put (hx : OK x z own cc nL ret fr lo mc ms) {idx ci f : Nat} {a v : Int} (fl : FL own idx ci f) (hd : decode cc pc = .ok (.putfield idx, 3)) (hty : isI (fty ci f) = true ∨ (∃ C, fty ci f = .object C) ∨ ∃ t, fty ci f = .array t)
    (hfin : ∀ r : vw_C, kcls[ci]? = some r → (r.2.1 f).2.2.2 = false) (ha : shk N a (0, ci)) (kk : V x z Po N (up I a f v) k n (pc + 3) L st) : V x z Po N I k n pc L (fv z ci f v :: vR z a :: st) := by
  intro H locs ls hP hS0 hl
  obtain ⟨r, hc, hk, hlk⟩ := fl
  obtain ⟨C, T, M⟩ := r
  have hts := hx.2.2.2.2.1
  have hin := inC ci _ hc
  have hK := hx.2.2.2.2.2.1.1
  have hap := va_apart (own := own) hts hin (fty ci) (tyC ci _ hc) (nmC ci _ hc) hK hc
  obtain ⟨r2, h1, cell, q1, q2, q3, q4⟩ := hP.at ha
  have hr : r2 = (C, T, M) := Option.some.inj (h1.symm.trans hc)
  subst hr
  obtain ⟨hS, hfc, kC, hkC, hkind⟩ := hK.1 ci _ hc
  obtain ⟨cf, kf, fi, fd, hi, hsl⟩ := hS f hk
  have hlay := hts _ (hin _ (u_in_lay hk))
  unfold u_lay at hlay
  rw [if_neg (by rw [hfin _ hc]; decide)] at hlay
  have hst := (u_facts hfc hkC (u_lays hts hin hk) hi).1
  have h6 := u_store hfc hkC hkind hlay hi (tyC ci _ hc f hk) (fv_ok (z := z) (v := v) hty).1 (fv_ok hty).2
  rw [vR_ref ha.1]
  refine W.putK hx.1 hx.2.1 (f := fd) ⟨hx.2.2.2.1, hts _ hlk, ⟨_, _, _, hi⟩, hst⟩ (by rw [q2]; exact h6) q1 q3 (by rw [hsl]; exact k2_hasslot (q4 f hk)) rfl rfl hd fun H' e1 e2 e3 => ?_
  rw [hsl] at e1 ⊢
  refine kk H' _ ls (hP.put ha e2 e3 ?_) (hS0.put e2 e3 (Nat.le_add_right _ _)) hl
  refine ⟨_, hc, t_OB.to (V := updV (vp_V (flds z ci (I a))) f (fv z ci f v)) ⟨_, e1, q2, q3, t_set q4 hap hk _⟩ (fun j _ => ?_)⟩
  have hf : f < nf ci := by rw [nf_eq hc]; exact hk
  rw [vp_updV_set (by rw [flds_len]; exact hf), flds_set hf, up_self]
theorem V_putF (hx : OK x z own cc nL ret fr lo mc ms) {idx ci f : Nat} {a v : Int} (fl : FL own idx ci f) (hd : decode cc pc = .ok (.putfield idx, 3)) (hty : isI (fty ci f) = true ∨ (∃ C, fty ci f = .object C) ∨ ∃ t, fty ci f = .array t)
    (hfin : ∀ r : vw_C, kcls[ci]? = some r → (r.2.1 f).2.2.2 = true ∧ (r.2.1 f).1 = own) (hini : (xt x).name = "<init>") (ha : shk N a (0, ci)) (kk : V x z Po N (up I a f v) k n (pc + 3) L st) : V x z Po N I k n pc L (fv z ci f v :: vR z a :: st) := by
  intro H locs ls hP hS0 hl
  obtain ⟨r, hc, hk, hlk⟩ := fl
  obtain ⟨C, T, M⟩ := r
  have hts := hx.2.2.2.2.1
  have hin := inC ci _ hc
  have hK := hx.2.2.2.2.2.1.1
  have hap := va_apart (own := own) hts hin (fty ci) (tyC ci _ hc) (nmC ci _ hc) hK hc
  obtain ⟨r2, h1, cell, q1, q2, q3, q4⟩ := hP.at ha
  have hr : r2 = (C, T, M) := Option.some.inj (h1.symm.trans hc)
  subst hr
  obtain ⟨hS, hfc, kC, hkC, hkind⟩ := hK.1 ci _ hc
  obtain ⟨cf, kf, fi, fd, hi, hsl⟩ := hS f hk
  have hlay := hts _ (hin _ (u_in_lay hk))
  unfold u_lay at hlay
  rw [if_pos (hfin _ hc).1] at hlay
  have hst := (u_facts hfc hkC (u_lays hts hin hk) hi).1
  have hcf : (xm x).cls = cf := by
    obtain ⟨_, _, c', _, _, _, -, -, hf', -, -, -, hown2, -⟩ := Cond.laysFinal_spec hlay
    have e1 : c' = cf := by have := hi.symm.trans hf'; simp at this; exact this.1.symm
    rw [(hfin _ hc).2] at hown2
    rw [← e1]; exact Option.some.inj (hx.2.2.2.1.symm.trans hown2)
  have h6 := u_fits hfc hkC hkind (Or.inr hlay) hi (tyC ci _ hc f hk) (fv_ok (z := z) (v := v) hty).1 (fv_ok hty).2
  rw [vR_ref ha.1]
  refine W.putFinK hx.1 hx.2.1 hx.2.2.2.1 (hts _ hlk) hi hst hcf hini (by rw [q2]; exact h6) q1 q3 (by rw [hsl]; exact k2_hasslot (q4 f hk)) rfl rfl hd fun H' e1 e2 e3 => ?_
  rw [hsl] at e1 ⊢
  refine kk H' _ ls (hP.put ha e2 e3 ?_) (hS0.put e2 e3 (Nat.le_add_right _ _)) hl
  refine ⟨_, hc, t_OB.to (V := updV (vp_V (flds z ci (I a))) f (fv z ci f v)) ⟨_, e1, q2, q3, t_set q4 hap hk _⟩ (fun j _ => ?_)⟩
  have hf : f < nf ci := by rw [nf_eq hc]; exact hk
  rw [vp_updV_set (by rw [flds_len]; exact hf), flds_set hf, up_self]
/-- int fields, not final -/
theorem V_putI (hx : OK x z own cc nL ret fr lo mc ms) {idx ci f : Nat} {a v : Int} (fl : FL own idx ci f) (hd : decode cc pc = .ok (.putfield idx, 3)) (ht : isI (fty ci f) = true) (hfin : ∀ r : vw_C, kcls[ci]? = some r → (r.2.1 f).2.2.2 = false) (ha : shk N a (0, ci)) (kk : V x z Po N (up I a f v) k n (pc + 3) L st) : V x z Po N I k n pc L (vI v :: vR z a :: st) := by
  have := V_put hx fl hd (Or.inl ht) hfin ha kk
  unfold fv at this
  rw [if_pos ht] at this
  exact this
theorem V_putR (hx : OK x z own cc nL ret fr lo mc ms) {idx ci f : Nat} {a v : Int} (fl : FL own idx ci f) (hd : decode cc pc = .ok (.putfield idx, 3)) (ht : (∃ C, fty ci f = .object C) ∨ ∃ t, fty ci f = .array t) (hfin : ∀ r : vw_C, kcls[ci]? = some r → (r.2.1 f).2.2.2 = false) (ha : shk N a (0, ci)) (kk : V x z Po N (up I a f v) k n (pc + 3) L st) : V x z Po N I k n pc L (vR z v :: vR z a :: st) := by
  have := V_put hx fl hd (Or.inr ht) hfin ha kk
  have hi : ¬ isI (fty ci f) = true := by rcases ht with ⟨C, h⟩ | ⟨t, h⟩ <;> rw [h] <;> simp [isI]
  unfold fv at this
  rw [if_neg hi] at this
  exact this
theorem V_putIF (hx : OK x z own cc nL ret fr lo mc ms) {idx ci f : Nat} {a v : Int} (fl : FL own idx ci f) (hd : decode cc pc = .ok (.putfield idx, 3)) (ht : isI (fty ci f) = true) (hfin : ∀ r : vw_C, kcls[ci]? = some r → (r.2.1 f).2.2.2 = true ∧ (r.2.1 f).1 = own) (hini : (xt x).name = "<init>") (ha : shk N a (0, ci)) (kk : V x z Po N (up I a f v) k n (pc + 3) L st) : V x z Po N I k n pc L (vI v :: vR z a :: st) := by
  have := V_putF hx fl hd (Or.inl ht) hfin hini ha kk
  unfold fv at this
  rw [if_pos ht] at this
  exact this
theorem V_putRF (hx : OK x z own cc nL ret fr lo mc ms) {idx ci f : Nat} {a v : Int} (fl : FL own idx ci f) (hd : decode cc pc = .ok (.putfield idx, 3)) (ht : (∃ C, fty ci f = .object C) ∨ ∃ t, fty ci f = .array t) (hfin : ∀ r : vw_C, kcls[ci]? = some r → (r.2.1 f).2.2.2 = true ∧ (r.2.1 f).1 = own) (hini : (xt x).name = "<init>") (ha : shk N a (0, ci)) (kk : V x z Po N (up I a f v) k n (pc + 3) L st) : V x z Po N I k n pc L (vR z v :: vR z a :: st) := by
  have := V_putF hx fl hd (Or.inr ht) hfin hini ha kk
  have hi : ¬ isI (fty ci f) = true := by rcases ht with ⟨C, h⟩ | ⟨t, h⟩ <;> rw [h] <;> simp [isI]
  unfold fv at this
  rw [if_neg hi] at this
  exact this
/-! arrays -/
theorem V_iaload (hx : OK x z own cc nL ret fr lo mc ms) {m : Nat} {a i : Int} (hd : decode cc pc = .ok (.iaload, 1)) (ha : shk N a (1, m)) (hm : m ≤ 2147483647) (hi : 0 ≤ i ∧ i < (m : Int)) (kk : V x z Po N I k n (pc + 1) L (vI (I a i) :: st)) : V x z Po N I k n pc L (vI i :: vR z a :: st) := by
  intro H locs ls hP hS hl
  have h1 := hP.at ha
  rw [vR_ref ha.1]
  refine va_iald (ws := [(z + a.toNat, .inl ((xd x).2.1, m, .inl (fun k => Int32.ofInt (I a k))))]) hx.1 hx.2.1 hx.2.2.2.2.2.1.1 (P1 h1) 0 0 rfl rfl (vp_in_o hi hm) hd ?_
  have e : ((Int32.ofInt i).toNatClampNeg : Int) = i := by rw [oI_clamp (by omega)]; omega
  rw [e]
  exact kk H locs ls hP hS hl
theorem V_baload (hx : OK x z own cc nL ret fr lo mc ms) {m : Nat} {a i : Int} (hd : decode cc pc = .ok (.baload, 1)) (ha : shk N a (2, m)) (hm : m ≤ 2147483647) (hi : 0 ≤ i ∧ i < (m : Int)) (kk : V x z Po N I k n (pc + 1) L (vI (I a i) :: st)) : V x z Po N I k n pc L (vI i :: vR z a :: st) := by
  intro H locs ls hP hS hl
  have h1 := hP.at ha
  rw [vR_ref ha.1]
  refine va_bald (ws := [(z + a.toNat, .inl ((xd x).2.2.1, m, .inl (fun k => Int32.ofInt (I a k))))]) hx.1 hx.2.1 hx.2.2.2.2.2.1.1 (P1 h1) 0 1 rfl rfl (vp_in_o hi hm) hd ?_
  have e : ((Int32.ofInt i).toNatClampNeg : Int) = i := by rw [oI_clamp (by omega)]; omega
  rw [e]
  exact kk H locs ls hP hS hl
def refK (s : Nat) : Prop := s = 3 ∨ s = 4 ∨ s = 5
theorem V_aaload (hx : OK x z own cc nL ret fr lo mc ms) {m s : Nat} {a i : Int} (hd : decode cc pc = .ok (.aaload, 1)) (ha : shk N a (s, m)) (hs : refK s) (hm : m ≤ 2147483647) (hi : 0 ≤ i ∧ i < (m : Int)) (kk : V x z Po N I k n (pc + 1) L (vR z (I a i) :: st)) : V x z Po N I k n pc L (vI i :: vR z a :: st) := by
  intro H locs ls hP hS hl
  have h1 := hP.at ha
  rw [vR_ref ha.1]
  have e : ((Int32.ofInt i).toNatClampNeg : Int) = i := by rw [oI_clamp (by omega)]; omega
  have h2 := kk H locs ls hP hS hl
  rw [← e] at h2
  rcases hs with rfl | rfl | rfl
  · exact va_aldq (ws := [(z + a.toNat, .inl ((xd x).2.2.2.1, m, .inr (.inr (.inr (.inr (fun k => vO z (I a k)))))))]) hx.1 hx.2.1 hx.2.2.2.2.2.1.1 (P1 h1) 0 2 rfl rfl (vp_in_o hi hm) hd h2
  · exact va_aldq (ws := [(z + a.toNat, .inl ((xd x).2.2.2.2.1, m, .inr (.inr (.inr (.inr (fun k => vO z (I a k)))))))]) hx.1 hx.2.1 hx.2.2.2.2.2.1.1 (P1 h1) 0 3 rfl rfl (vp_in_o hi hm) hd h2
  · exact va_aldq (ws := [(z + a.toNat, .inl ((xd x).2.2.2.2.2.1, m, .inr (.inr (.inr (.inr (fun k => vO z (I a k)))))))]) hx.1 hx.2.1 hx.2.2.2.2.2.1.1 (P1 h1) 0 4 rfl rfl (vp_in_o hi hm) hd h2
theorem V_iastore (hx : OK x z own cc nL ret fr lo mc ms) {m : Nat} {a i v : Int} (hd : decode cc pc = .ok (.iastore, 1)) (ha : shk N a (1, m)) (hm : m ≤ 2147483647) (hi : 0 ≤ i ∧ i < (m : Int)) (kk : V x z Po N (up I a i v) k n (pc + 1) L st) : V x z Po N I k n pc L (vI v :: vI i :: vR z a :: st) := by
  intro H locs ls hP hS hl
  have h1 := hP.at ha
  have hK := hx.2.2.2.2.2.1.1
  have hin := vp_in_o hi hm
  rw [vR_ref ha.1]
  refine W.iast hx.1 hx.2.1 h1 ((hK.2 0 _ rfl).1 m (fun j => .int (Int32.ofInt (I a j)))) (fun q => by cases q) (by show ¬ (_ < 0 ∨ (arrV _ _ _).slots.size ≤ _); rw [arrV_size]; exact hin) rfl rfl hd fun H1 e zz oq => ?_
  refine kk H1 _ ls (hP.put ha zz oq ?_) (hS.put zz oq (Nat.le_add_right _ _)) hl
  show H1[z + a.toNat]? = some (vp_cell _ _)
  rw [e]
  show some ((vp_cell _ _).setSlot _ _) = some (vp_cell _ _)
  rw [vp_cell_i, vp_cell_i, arrV_store]
  congr 2
  funext q
  rw [up_self, oI_clamp (by omega)]
  unfold updV
  by_cases hq : q = i.toNat
  · have : (q : Int) = i := by omega
    simp only [if_pos hq, if_pos this]
  · have : ¬ (q : Int) = i := by omega
    simp only [if_neg hq, if_neg this]
theorem V_bastore (hx : OK x z own cc nL ret fr lo mc ms) {m : Nat} {a i v : Int} (hd : decode cc pc = .ok (.bastore, 1)) (ha : shk N a (2, m)) (hm : m ≤ 2147483647) (hi : 0 ≤ i ∧ i < (m : Int)) (hv : -128 ≤ v ∧ v ≤ 127) (kk : V x z Po N (up I a i v) k n (pc + 1) L st) : V x z Po N I k n pc L (vI v :: vI i :: vR z a :: st) := by
  intro H locs ls hP hS hl
  have h1 := hP.at ha
  have hK := hx.2.2.2.2.2.1.1
  have hin := vp_in_o hi hm
  rw [vR_ref ha.1]
  have hnv : narrow .byte (.int (Int32.ofInt v)) = .int (Int32.ofInt v) := by
    have : (Int32.ofInt v).toInt8.toInt32 = Int32.ofInt v := by
      apply Int32.toInt_inj.mp
      rw [Int8.toInt_toInt32, Int32.toInt_toInt8, oI_rt (by omega)]
      exact Int.bmod_eq_of_le (by omega) (by omega)
    show Value.int _ = _
    rw [this]
  refine W.bast hx.1 hx.2.1 h1 ((hK.2 1 _ rfl).1 m (fun j => .int (Int32.ofInt (I a j)))) (fun q => by cases q) (by show ¬ (_ < 0 ∨ (arrV _ _ _).slots.size ≤ _); rw [arrV_size]; exact hin) rfl rfl hd fun H1 e zz oq => ?_
  refine kk H1 _ ls (hP.put ha zz oq ?_) (hS.put zz oq (Nat.le_add_right _ _)) hl
  show H1[z + a.toNat]? = some (vp_cell _ _)
  rw [e, hnv]
  show some ((vp_cell _ _).setSlot _ _) = some (vp_cell _ _)
  rw [vp_cell_i, vp_cell_i, arrV_store]
  congr 2
  funext q
  rw [up_self, oI_clamp (by omega)]
  unfold updV
  by_cases hq : q = i.toNat
  · have : (q : Int) = i := by omega
    simp only [if_pos hq, if_pos this]
  · have : ¬ (q : Int) = i := by omega
    simp only [if_neg hq, if_neg this]
/-- which objects an array holds -/
def elC (s : Nat) : Nat := if s = 3 then 9 else if s = 4 then 7 else 5
theorem V_aastore (hx : OK x z own cc nL ret fr lo mc ms) {m s : Nat} {a i v : Int} (hd : decode cc pc = .ok (.aastore, 1)) (ha : shk N a (s, m)) (hs : refK s) (hm : m ≤ 2147483647) (hi : 0 ≤ i ∧ i < (m : Int)) (hv : v < 0 ∨ shk N v (0, elC s)) (kk : V x z Po N (up I a i v) k n (pc + 1) L st) : V x z Po N I k n pc L (vR z v :: vI i :: vR z a :: st) := by
  intro H locs ls hP hS hl
  have h1 := hP.at ha
  have hK := hx.2.2.2.2.2.1.1
  have hin := vp_in_o hi hm
  have hlt : (Int32.ofInt i).toNatClampNeg < m := Nat.not_le.mp fun q => hin (Or.inr q)
  have h0 : ¬ Int32.ofInt i < 0 := fun q => hin (Or.inl q)
  have fin : ∀ (cA : ClassId) (H1 : Heap), H1[z + a.toNat]? = some ((vp_cell cA (m, .inr (.inr (.inr (.inr (fun k => vO z (I a k))))))).setSlot (Int32.ofInt i).toNatClampNeg (vR z v)) → H1[z + a.toNat]? = some (vp_cell cA (m, .inr (.inr (.inr (.inr (fun k => vO z (up I a i v a k))))))) := by
    intro cA H1 e
    rw [e, vp_cell_q, vp_cell_q, arrV_store]
    congr 2
    funext q
    rw [up_self, oI_clamp (by omega)]
    unfold updV
    by_cases hq : q = i.toNat
    · have : (q : Int) = i := by omega
      simp only [if_pos hq, if_pos this]
      rfl
    · have : ¬ (q : Int) = i := by omega
      simp only [if_neg hq, if_neg this]
  have main : ∀ (t0 : Nat) (cA : ClassId) (C : String) (T : u_T) (M : Nat), (dtys (xd x))[t0]? = some (cA, .object C) → kcls[elC s]? = some (C, T, M) → (∀ f, lcs (xd x) z (s, m) f = .inl (cA, m, .inr (.inr (.inr (.inr (fun k => vO z (f k))))))) → W (xp x) (xl x) (xe x) (xR x) (xs x) (xm x) (xa x) (xb x) (xt x) (xc x) H locs k n (MQ (xb x) (Qo (xd x) z Po) (xa x) (xs x) (xmc x) (xms x) (Ah z)) (F0 (xm x) pc ls (vR z v :: vI i :: vR z a :: st)) := by
    intro t0 cA C T M ht hc hlc
    rw [hlc] at h1
    have h1' : H[z + a.toNat]? = some (vp_cell cA (m, .inr (.inr (.inr (.inr (fun k => vO z (I a k))))))) := h1
    rw [vR_ref ha.1]
    rcases hv with hv | hv
    · rw [vR_null hv] at fin ⊢
      refine va_WaastN (C := C) hx.1 hx.2.1 h1' ((hK.2 t0 _ ht).1 m (fun j => va_rf (vO z (I a j)))) (fun h => by cases h) (by show ¬ (_ < 0 ∨ (arrV _ _ _).slots.size ≤ _); rw [arrV_size]; exact hin) rfl rfl hd fun H1 e zz oq => ?_
      refine kk H1 _ ls (hP.put ha zz oq ?_) (hS.put zz oq (Nat.le_add_right _ _)) hl
      rw [hlc]
      exact fin cA H1 e
    · obtain ⟨r', hr', cellV, g1, g2, g3, -⟩ := hP.at hv
      have hcls := (hK.1 (elC s) (C, T, M) hc).2
      obtain ⟨kA, comp, k1, k2, k3, -⟩ := (hK.2 t0 _ ht).2
      have hcomp : comp = (xd x).1.1 (elC s) := Option.some.inj (k3.symm.trans hcls.1)
      subst hcomp
      obtain ⟨kC, hkC, -⟩ := hcls.2
      rw [vR_ref hv.1] at fin ⊢
      refine W.aast hx.1 hx.2.1 h1' (fun q h => by cases h) (fun h => by cases h) k1 k2 rfl hkC ⟨h0, by show _ < (arrV _ _ _).slots.size; rw [arrV_size]; exact hlt⟩ g1 (fun q h => by rw [g3] at h; cases h) (by rw [g2]; exact hkC) (by rw [g2]; exact va_assign hcls) rfl rfl hd fun H1 e zz oq => ?_
      refine kk H1 _ ls (hP.put ha zz oq ?_) (hS.put zz oq (Nat.le_add_right _ _)) hl
      rw [hlc]
      exact fin cA H1 e
  rcases hs with rfl | rfl | rfl
  · exact main 2 _ _ _ _ rfl rfl (fun f => rfl)
  · exact main 3 _ _ _ _ rfl rfl (fun f => rfl)
  · exact main 4 _ _ _ _ rfl rfl (fun f => rfl)
def tyK (s : Nat) : Prop := s = 1 ∨ s = 2 ∨ s = 3 ∨ s = 4 ∨ s = 5
theorem V_alen (hx : OK x z own cc nL ret fr lo mc ms) {m s : Nat} {a : Int} (hd : decode cc pc = .ok (.arraylength, 1)) (ha : shk N a (s, m)) (hs : tyK s) (kk : V x z Po N I k n (pc + 1) L (vI (m : Int) :: st)) : V x z Po N I k n pc L (vR z a :: st) := by
  intro H locs ls hP hS hl
  have h1 := hP.at ha
  rw [vR_ref ha.1]
  have h2 := kk H locs ls hP hS hl
  have e : Int32.ofNat m = Int32.ofInt (m : Int) := rfl
  rcases hs with rfl | rfl | rfl | rfl | rfl
  · exact va_alen (ws := [_]) hx.1 hx.2.1 hx.2.2.2.2.2.1.1 (P1 h1) 0 0 rfl rfl e hd h2
  · exact va_alen (ws := [_]) hx.1 hx.2.1 hx.2.2.2.2.2.1.1 (P1 h1) 0 1 rfl rfl e hd h2
  · exact va_alen (ws := [_]) hx.1 hx.2.1 hx.2.2.2.2.2.1.1 (P1 h1) 0 2 rfl rfl e hd h2
  · exact va_alen (ws := [_]) hx.1 hx.2.1 hx.2.2.2.2.2.1.1 (P1 h1) 0 3 rfl rfl e hd h2
  · exact va_alen (ws := [_]) hx.1 hx.2.1 hx.2.2.2.2.2.1.1 (P1 h1) 0 4 rfl rfl e hd h2
end VM
