/-! ===== numbers ===== -/
theorem oI_rt {a : Int} (h : -2147483648 ≤ a ∧ a ≤ 2147483647) : (Int32.ofInt a).toInt = a := by
  have e : (Int32.size : Int) = 4294967296 := rfl
  rw [Int32.toInt_ofInt]
  exact Int.bmod_eq_of_le (by omega) (by omega)
theorem nc_s {L : List (Option Value)} (j : Nat) {o : Option Value} (h : L[j]? = some o) (hn : nc2 o) : nc2p L (j + 1) := by
  intro i hi o' ho
  have : i = j := by omega
  subst this
  rw [h] at ho
  cases ho
  exact hn
theorem nc_0 {L : List (Option Value)} : nc2p L 0 := fun i hi => by omega
theorem oI_eq {a b : Int} (ha : -2147483648 ≤ a ∧ a ≤ 2147483647) (hb : -2147483648 ≤ b ∧ b ≤ 2147483647) : Int32.ofInt a = Int32.ofInt b ↔ a = b := by
  rw [← Int32.toInt_inj, oI_rt ha, oI_rt hb]
theorem oI_lt {a b : Int} (ha : -2147483648 ≤ a ∧ a ≤ 2147483647) (hb : -2147483648 ≤ b ∧ b ≤ 2147483647) : Int32.ofInt a < Int32.ofInt b ↔ a < b := by
  rw [Int32.lt_iff_toInt_lt, oI_rt ha, oI_rt hb]
theorem oI_le {a b : Int} (ha : -2147483648 ≤ a ∧ a ≤ 2147483647) (hb : -2147483648 ≤ b ∧ b ≤ 2147483647) : Int32.ofInt a ≤ Int32.ofInt b ↔ a ≤ b := by
  rw [Int32.le_iff_toInt_le, oI_rt ha, oI_rt hb]
theorem oL_rt {a : Int} (h : -9223372036854775808 ≤ a ∧ a ≤ 9223372036854775807) : (Int64.ofInt a).toInt = a := by
  have e : (Int64.size : Int) = 18446744073709551616 := rfl
  rw [Int64.toInt_ofInt]
  exact Int.bmod_eq_of_le (by omega) (by omega)
theorem vI_add (a b : Int) : vI (a + b) = .int (Int32.ofInt a + Int32.ofInt b) := by rw [vI, Int32.ofInt_add]
theorem vI_sub (a b : Int) : vI (a - b) = .int (Int32.ofInt a - Int32.ofInt b) := by rw [vI, Int32.ofInt_sub]
theorem vI_mul (a b : Int) : vI (a * b) = .int (Int32.ofInt a * Int32.ofInt b) := by rw [vI, Int32.ofInt_mul]
theorem vI_neg (a : Int) : vI (-a) = .int (-Int32.ofInt a) := by rw [vI, Int32.ofInt_neg]
theorem vL_add (a b : Int) : vL (a + b) = .long (Int64.ofInt a + Int64.ofInt b) := by rw [vL, Int64.ofInt_add]
theorem vL_sub (a b : Int) : vL (a - b) = .long (Int64.ofInt a - Int64.ofInt b) := by rw [vL, Int64.ofInt_sub]
theorem vL_mul (a b : Int) : vL (a * b) = .long (Int64.ofInt a * Int64.ofInt b) := by rw [vL, Int64.ofInt_mul]
theorem oI_div {a b : Int} (ha : 0 ≤ a ∧ a ≤ 2147483647) (hb : 1 ≤ b ∧ b ≤ 2147483647) : Int32.ofInt a / Int32.ofInt b = Int32.ofInt (a / b) := by
  apply Int32.toInt_inj.mp
  have h1 : a / b ≤ a := Int.ediv_le_self b ha.1
  have h2 : 0 ≤ a / b := Int.ediv_nonneg ha.1 (by omega)
  rw [Int32.toInt_div, oI_rt (by omega), oI_rt (by omega), oI_rt (by omega), Int.tdiv_eq_ediv_of_nonneg ha.1]
  exact Int.bmod_eq_of_le (by omega) (by omega)
theorem oI_rem {a b : Int} (ha : 0 ≤ a ∧ a ≤ 2147483647) (hb : 1 ≤ b ∧ b ≤ 2147483647) : Int32.ofInt a - Int32.ofInt a / Int32.ofInt b * Int32.ofInt b = Int32.ofInt (a % b) := by
  rw [oI_div ha hb, ← Int32.ofInt_mul, ← Int32.ofInt_sub]
  congr 1
  have := Int.mul_ediv_add_emod a b
  rw [Int.mul_comm] at this
  omega
theorem oI_i2l {a : Int} (ha : -2147483648 ≤ a ∧ a ≤ 2147483647) : (Int32.ofInt a).toInt64 = Int64.ofInt a := by
  apply Int64.toInt_inj.mp
  rw [Int32.toInt_toInt64, oI_rt ha, oL_rt (by omega)]
theorem vp_in_o {i : Int} {n : Nat} (h : 0 ≤ i ∧ i < (n : Int)) (hn : n ≤ 2147483647) : vp_in (Int32.ofInt i) n := by
  rw [vp_in_iff, oI_rt (by omega)]
  exact h
theorem oI_clamp {i : Int} (h : 0 ≤ i ∧ i ≤ 2147483647) : (Int32.ofInt i).toNatClampNeg = i.toNat := by
  show (Int32.ofInt i).toInt.toNat = i.toNat
  rw [oI_rt (by omega)]
theorem oI_ne0 {b : Int} (hb : -2147483648 ≤ b ∧ b ≤ 2147483647) (h : b ≠ 0) : ¬ Int32.ofInt b = 0 := by
  intro q
  have : Int32.ofInt b = Int32.ofInt 0 := q
  rw [oI_eq hb (by omega)] at this
  exact h this
theorem P1 {D : va_G} {cl : List vw_C} {q : Nat × va_E} {H : Heap} (h : va_at D cl q H) : va_P D cl [q] H := by
  intro k q' hk
  match k, hk with
  | 0, hk => cases hk; exact h
  | k + 1, hk => simp at hk
theorem inC : ∀ (ci : Nat) (r : vw_C), kcls[ci]? = some r → ∀ w ∈ u_ws r.1 r.2.1 r.2.2, w ∈ gtbl
  | 0, r, h => by cases h; exact inX0
  | 1, r, h => by cases h; exact inX1
  | 2, r, h => by cases h; exact inX2
  | 3, r, h => by cases h; exact inX3
  | 4, r, h => by cases h; exact inX4
  | 5, r, h => by cases h; exact inX5
  | 6, r, h => by cases h; exact inX6
  | 7, r, h => by cases h; exact inX7
  | 8, r, h => by cases h; exact inX8
  | 9, r, h => by cases h; exact inX9
  | 10, r, h => by cases h; exact inX10
  | 11, r, h => by cases h; exact inX11
  | n + 12, r, h => by simp at h
theorem tyC : ∀ (ci : Nat) (r : vw_C), kcls[ci]? = some r → ∀ k, k < r.2.2 → parseFieldDescriptor (r.2.1 k).2.2.1 = some (fty ci k)
  | 0, r, h => by cases h; exact tyX0_ok
  | 1, r, h => by cases h; exact tyX1_ok
  | 2, r, h => by cases h; exact tyX2_ok
  | 3, r, h => by cases h; exact tyX3_ok
  | 4, r, h => by cases h; exact tyX4_ok
  | 5, r, h => by cases h; exact tyX5_ok
  | 6, r, h => by cases h; exact tyX6_ok
  | 7, r, h => by cases h; exact tyX7_ok
  | 8, r, h => by cases h; exact tyX8_ok
  | 9, r, h => by cases h; exact tyX9_ok
  | 10, r, h => by cases h; exact tyX10_ok
  | 11, r, h => by cases h; exact tyX11_ok
  | n + 12, r, h => by simp at h
theorem nmC : ∀ (ci : Nat) (r : vw_C), kcls[ci]? = some r → ∀ a, a < r.2.2 → ∀ b, b < r.2.2 → a ≠ b → (r.2.1 a).2.1 ≠ (r.2.1 b).2.1
  | 0, r, h => by cases h; exact nmX0
  | 1, r, h => by cases h; exact nmX1
  | 2, r, h => by cases h; exact nmX2
  | 3, r, h => by cases h; exact nmX3
  | 4, r, h => by cases h; exact nmX4
  | 5, r, h => by cases h; exact nmX5
  | 6, r, h => by cases h; exact nmX6
  | 7, r, h => by cases h; exact nmX7
  | 8, r, h => by cases h; exact nmX8
  | 9, r, h => by cases h; exact nmX9
  | 10, r, h => by cases h; exact nmX10
  | 11, r, h => by cases h; exact nmX11
  | n + 12, r, h => by simp at h
theorem nf_eq {ci : Nat} {r : vw_C} (h : kcls[ci]? = some r) : nf ci = r.2.2 := by simp [nf, h]
section VR
variable {x : Cx} {z : Nat} {own : String} {cc : ByteArray} {nL : Nat} {ret : Option FieldType} {fr lo mc ms : Nat} {Po : Pst} {N : Int} {I : Mm} {k n pc : Nat} {L : List (Option Value)} {st : List Value}
theorem V_iconst (hx : OK x z own cc nL ret fr lo mc ms) {v : Int} (hd : decode cc pc = .ok (.iconst v, 1)) (kk : V x z Po N I k n (pc + 1) L (vI v :: st)) : V x z Po N I k n pc L st := fun H locs ls hP hS hl => lv_iconst hx.1 hx.2.1 hd rfl (kk H locs ls hP hS hl)
theorem V_bipush (hx : OK x z own cc nL ret fr lo mc ms) {v : Int} (hd : decode cc pc = .ok (.bipush v, 2)) (hv : (Int8.ofInt v).toInt32 = Int32.ofInt v) (kk : V x z Po N I k n (pc + 2) L (vI v :: st)) : V x z Po N I k n pc L st := fun H locs ls hP hS hl => lv_bipush hx.1 hx.2.1 hd hv (kk H locs ls hP hS hl)
theorem V_sipush (hx : OK x z own cc nL ret fr lo mc ms) {v : Int} (hd : decode cc pc = .ok (.sipush v, 3)) (hv : (Int16.ofInt v).toInt32 = Int32.ofInt v) (kk : V x z Po N I k n (pc + 3) L (vI v :: st)) : V x z Po N I k n pc L st := fun H locs ls hP hS hl => lv_sipush hx.1 hx.2.1 hd hv (kk H locs ls hP hS hl)
theorem V_lconst (hx : OK x z own cc nL ret fr lo mc ms) {c : Fin 2} {v : Int} (hd : decode cc pc = .ok (.lconst c, 1)) (hv : Int64.ofNat (c : Nat) = Int64.ofInt v) (kk : V x z Po N I k n (pc + 1) L (vL v :: st)) : V x z Po N I k n pc L st := fun H locs ls hP hS hl => lv_lconst hx.1 hx.2.1 hd hv (kk H locs ls hP hS hl)
theorem V_ldc (hx : OK x z own cc nL ret fr lo mc ms) {i : Nat} {v : Int} {w : Int32} (kc : Cond.constant own i w ∈ gtbl) (hd : decode cc pc = .ok (.ldc i, 2)) (hv : w = Int32.ofInt v) (kk : V x z Po N I k n (pc + 2) L (vI v :: st)) : V x z Po N I k n pc L st := fun H locs ls hP hS hl => lv_ldc hx.1 hx.2.1 hx.2.2.2.1 (hx.2.2.2.2.1 _ kc) hd (hv ▸ kk H locs ls hP hS hl)
theorem V_ldc2 (hx : OK x z own cc nL ret fr lo mc ms) {i : Nat} {v : Int} {w : Int64} (kc : Cond.constantLong own i w ∈ gtbl) (hd : decode cc pc = .ok (.ldc2_w i, 3)) (hv : w = Int64.ofInt v) (kk : V x z Po N I k n (pc + 3) L (vL v :: st)) : V x z Po N I k n pc L st := fun H locs ls hP hS hl => lv_ldc2 hx.1 hx.2.1 hx.2.2.2.1 (hx.2.2.2.2.1 _ kc) hd (hv ▸ kk H locs ls hP hS hl)
theorem V_null (hx : OK x z own cc nL ret fr lo mc ms) (hd : decode cc pc = .ok (.aconst_null, 1)) (kk : V x z Po N I k n (pc + 1) L (vR z (-1) :: st)) : V x z Po N I k n pc L st := fun H locs ls hP hS hl => lv_null hx.1 hx.2.1 hd (kk H locs ls hP hS hl)
theorem V_iload_0 (hx : OK x z own cc nL ret fr lo mc ms) {r : List (Option Value)} {a : Int} (hd : decode cc pc = .ok (.iload_n 0, 1)) (kk : V x z Po N I k n (pc + 1) (some (vI a) :: r) (vI a :: st)) : V x z Po N I k n pc (some (vI a) :: r) st := fun H locs ls hP hS hl => lv_iload_n hx.1 hx.2.1 hd rfl (hl.2.2 0 _ rfl) (kk H locs ls hP hS hl)
theorem V_istore_0 (hx : OK x z own cc nL ret fr lo mc ms) {r : List (Option Value)} {o : Option Value} {a : Int} (hd : decode cc pc = .ok (.istore_n 0, 1)) (kk : V x z Po N I k n (pc + 1) (some (vI a) :: r) st) : V x z Po N I k n pc (o :: r) (vI a :: st) := fun H locs ls hP hS hl => lv_istore_n hx.1 hx.2.1 hd rfl hl.has (show 0 < r.length + 1 by omega) rfl (fun ls' h' => kk H locs ls' hP hS (hl.st1 (i := 0) (v := vI a) nc_0 h'))
theorem V_lload_0 (hx : OK x z own cc nL ret fr lo mc ms) {r : List (Option Value)} {a : Int} (hd : decode cc pc = .ok (.lload_n 0, 1)) (kk : V x z Po N I k n (pc + 1) (some (vL a) :: r) (vL a :: st)) : V x z Po N I k n pc (some (vL a) :: r) st := fun H locs ls hP hS hl => lv_lload_n hx.1 hx.2.1 hd rfl (hl.2.2 0 _ rfl) (kk H locs ls hP hS hl)
theorem V_lstore_0 (hx : OK x z own cc nL ret fr lo mc ms) {r : List (Option Value)} {o o' : Option Value} {a : Int} (hd : decode cc pc = .ok (.lstore_n 0, 1)) (kk : V x z Po N I k n (pc + 1) (some (vL a) :: none :: r) st) : V x z Po N I k n pc (o :: o' :: r) (vL a :: st) := fun H locs ls hP hS hl => lv_lstore_n hx.1 hx.2.1 hd rfl hl.has (show 0 + 1 < r.length + 2 by omega) rfl (fun ls' h' => kk H locs ls' hP hS (hl.st2 (i := 0) (v := vL a) nc_0 h'))
theorem V_aload_0 (hx : OK x z own cc nL ret fr lo mc ms) {r : List (Option Value)} {a : Int} (hd : decode cc pc = .ok (.aload_n 0, 1)) (kk : V x z Po N I k n (pc + 1) (some (vR z a) :: r) (vR z a :: st)) : V x z Po N I k n pc (some (vR z a) :: r) st := by
  intro H locs ls hP hS hl
  have h0 := hl.2.2 0 _ rfl
  have h1 := kk H locs ls hP hS hl
  rcases Int.lt_or_le a 0 with q | q
  · rw [vR_null q] at h0 h1
    exact lv_aload_nN hx.1 hx.2.1 hd rfl h0 h1
  · rw [vR_ref q] at h0 h1
    exact lv_aload_n hx.1 hx.2.1 hd rfl h0 h1
theorem V_astore_0 (hx : OK x z own cc nL ret fr lo mc ms) {r : List (Option Value)} {o : Option Value} {a : Int} (hd : decode cc pc = .ok (.astore_n 0, 1)) (kk : V x z Po N I k n (pc + 1) (some (vR z a) :: r) st) : V x z Po N I k n pc (o :: r) (vR z a :: st) := by
  intro H locs ls hP hS hl
  have h1 := fun ls' h' => kk H locs ls' hP hS (hl.st1 (i := 0) (v := vR z a) nc_0 h')
  rcases Int.lt_or_le a 0 with q | q
  · rw [vR_null q] at h1 ⊢
    exact lv_astore_nN hx.1 hx.2.1 hd rfl hl.has (show 0 < r.length + 1 by omega) rfl h1
  · rw [vR_ref q] at h1 ⊢
    exact lv_astore_n hx.1 hx.2.1 hd rfl hl.has (show 0 < r.length + 1 by omega) rfl h1
theorem V_iinc_0 (hx : OK x z own cc nL ret fr lo mc ms) {r : List (Option Value)} {a c : Int} (hd : decode cc pc = .ok (.iinc 0 c, 3)) (kk : V x z Po N I k n (pc + 3) (some (vI (a + c)) :: r) st) : V x z Po N I k n pc (some (vI a) :: r) st := by
  intro H locs ls hP hS hl
  obtain ⟨q, hq⟩ := List.getElem?_of_mem (prs_mem.mpr (show (some (vI a) :: r)[0]? = some (some (vI a)) from rfl))
  exact lv_iinc (v := Int32.ofInt (a + c)) hx.1 hx.2.1 hd hl.has hq (by rw [Int32.ofInt_add]) (show 0 < r.length + 1 by omega) rfl (fun ls' h' => kk H locs ls' hP hS (hl.st1 (i := 0) (v := vI (a + c)) nc_0 h'))
theorem V_iload_1 (hx : OK x z own cc nL ret fr lo mc ms) {o0 : Option Value} {r : List (Option Value)} {a : Int} (hd : decode cc pc = .ok (.iload_n 1, 1)) (kk : V x z Po N I k n (pc + 1) (o0 :: some (vI a) :: r) (vI a :: st)) : V x z Po N I k n pc (o0 :: some (vI a) :: r) st := fun H locs ls hP hS hl => lv_iload_n hx.1 hx.2.1 hd rfl (hl.2.2 1 _ rfl) (kk H locs ls hP hS hl)
theorem V_istore_1 (hx : OK x z own cc nL ret fr lo mc ms) {o0 : Option Value} {r : List (Option Value)} {o : Option Value} {a : Int} (hn : nc2 o0) (hd : decode cc pc = .ok (.istore_n 1, 1)) (kk : V x z Po N I k n (pc + 1) (o0 :: some (vI a) :: r) st) : V x z Po N I k n pc (o0 :: o :: r) (vI a :: st) := fun H locs ls hP hS hl => lv_istore_n hx.1 hx.2.1 hd rfl hl.has (show 1 < r.length + 2 by omega) rfl (fun ls' h' => kk H locs ls' hP hS (hl.st1 (i := 1) (v := vI a) (nc_s 0 rfl hn) h'))
theorem V_lload_1 (hx : OK x z own cc nL ret fr lo mc ms) {o0 : Option Value} {r : List (Option Value)} {a : Int} (hd : decode cc pc = .ok (.lload_n 1, 1)) (kk : V x z Po N I k n (pc + 1) (o0 :: some (vL a) :: r) (vL a :: st)) : V x z Po N I k n pc (o0 :: some (vL a) :: r) st := fun H locs ls hP hS hl => lv_lload_n hx.1 hx.2.1 hd rfl (hl.2.2 1 _ rfl) (kk H locs ls hP hS hl)
theorem V_lstore_1 (hx : OK x z own cc nL ret fr lo mc ms) {o0 : Option Value} {r : List (Option Value)} {o o' : Option Value} {a : Int} (hn : nc2 o0) (hd : decode cc pc = .ok (.lstore_n 1, 1)) (kk : V x z Po N I k n (pc + 1) (o0 :: some (vL a) :: none :: r) st) : V x z Po N I k n pc (o0 :: o :: o' :: r) (vL a :: st) := fun H locs ls hP hS hl => lv_lstore_n hx.1 hx.2.1 hd rfl hl.has (show 1 + 1 < r.length + 3 by omega) rfl (fun ls' h' => kk H locs ls' hP hS (hl.st2 (i := 1) (v := vL a) (nc_s 0 rfl hn) h'))
theorem V_aload_1 (hx : OK x z own cc nL ret fr lo mc ms) {o0 : Option Value} {r : List (Option Value)} {a : Int} (hd : decode cc pc = .ok (.aload_n 1, 1)) (kk : V x z Po N I k n (pc + 1) (o0 :: some (vR z a) :: r) (vR z a :: st)) : V x z Po N I k n pc (o0 :: some (vR z a) :: r) st := by
  intro H locs ls hP hS hl
  have h0 := hl.2.2 1 _ rfl
  have h1 := kk H locs ls hP hS hl
  rcases Int.lt_or_le a 0 with q | q
  · rw [vR_null q] at h0 h1
    exact lv_aload_nN hx.1 hx.2.1 hd rfl h0 h1
  · rw [vR_ref q] at h0 h1
    exact lv_aload_n hx.1 hx.2.1 hd rfl h0 h1
theorem V_astore_1 (hx : OK x z own cc nL ret fr lo mc ms) {o0 : Option Value} {r : List (Option Value)} {o : Option Value} {a : Int} (hn : nc2 o0) (hd : decode cc pc = .ok (.astore_n 1, 1)) (kk : V x z Po N I k n (pc + 1) (o0 :: some (vR z a) :: r) st) : V x z Po N I k n pc (o0 :: o :: r) (vR z a :: st) := by
  intro H locs ls hP hS hl
  have h1 := fun ls' h' => kk H locs ls' hP hS (hl.st1 (i := 1) (v := vR z a) (nc_s 0 rfl hn) h')
  rcases Int.lt_or_le a 0 with q | q
  · rw [vR_null q] at h1 ⊢
    exact lv_astore_nN hx.1 hx.2.1 hd rfl hl.has (show 1 < r.length + 2 by omega) rfl h1
  · rw [vR_ref q] at h1 ⊢
    exact lv_astore_n hx.1 hx.2.1 hd rfl hl.has (show 1 < r.length + 2 by omega) rfl h1
theorem V_iinc_1 (hx : OK x z own cc nL ret fr lo mc ms) {o0 : Option Value} {r : List (Option Value)} {a c : Int} (hn : nc2 o0) (hd : decode cc pc = .ok (.iinc 1 c, 3)) (kk : V x z Po N I k n (pc + 3) (o0 :: some (vI (a + c)) :: r) st) : V x z Po N I k n pc (o0 :: some (vI a) :: r) st := by
  intro H locs ls hP hS hl
  obtain ⟨q, hq⟩ := List.getElem?_of_mem (prs_mem.mpr (show (o0 :: some (vI a) :: r)[1]? = some (some (vI a)) from rfl))
  exact lv_iinc (v := Int32.ofInt (a + c)) hx.1 hx.2.1 hd hl.has hq (by rw [Int32.ofInt_add]) (show 1 < r.length + 2 by omega) rfl (fun ls' h' => kk H locs ls' hP hS (hl.st1 (i := 1) (v := vI (a + c)) (nc_s 0 rfl hn) h'))
theorem V_iload_2 (hx : OK x z own cc nL ret fr lo mc ms) {o0 o1 : Option Value} {r : List (Option Value)} {a : Int} (hd : decode cc pc = .ok (.iload_n 2, 1)) (kk : V x z Po N I k n (pc + 1) (o0 :: o1 :: some (vI a) :: r) (vI a :: st)) : V x z Po N I k n pc (o0 :: o1 :: some (vI a) :: r) st := fun H locs ls hP hS hl => lv_iload_n hx.1 hx.2.1 hd rfl (hl.2.2 2 _ rfl) (kk H locs ls hP hS hl)
theorem V_istore_2 (hx : OK x z own cc nL ret fr lo mc ms) {o0 o1 : Option Value} {r : List (Option Value)} {o : Option Value} {a : Int} (hn : nc2 o1) (hd : decode cc pc = .ok (.istore_n 2, 1)) (kk : V x z Po N I k n (pc + 1) (o0 :: o1 :: some (vI a) :: r) st) : V x z Po N I k n pc (o0 :: o1 :: o :: r) (vI a :: st) := fun H locs ls hP hS hl => lv_istore_n hx.1 hx.2.1 hd rfl hl.has (show 2 < r.length + 3 by omega) rfl (fun ls' h' => kk H locs ls' hP hS (hl.st1 (i := 2) (v := vI a) (nc_s 1 rfl hn) h'))
theorem V_lload_2 (hx : OK x z own cc nL ret fr lo mc ms) {o0 o1 : Option Value} {r : List (Option Value)} {a : Int} (hd : decode cc pc = .ok (.lload_n 2, 1)) (kk : V x z Po N I k n (pc + 1) (o0 :: o1 :: some (vL a) :: r) (vL a :: st)) : V x z Po N I k n pc (o0 :: o1 :: some (vL a) :: r) st := fun H locs ls hP hS hl => lv_lload_n hx.1 hx.2.1 hd rfl (hl.2.2 2 _ rfl) (kk H locs ls hP hS hl)
theorem V_lstore_2 (hx : OK x z own cc nL ret fr lo mc ms) {o0 o1 : Option Value} {r : List (Option Value)} {o o' : Option Value} {a : Int} (hn : nc2 o1) (hd : decode cc pc = .ok (.lstore_n 2, 1)) (kk : V x z Po N I k n (pc + 1) (o0 :: o1 :: some (vL a) :: none :: r) st) : V x z Po N I k n pc (o0 :: o1 :: o :: o' :: r) (vL a :: st) := fun H locs ls hP hS hl => lv_lstore_n hx.1 hx.2.1 hd rfl hl.has (show 2 + 1 < r.length + 4 by omega) rfl (fun ls' h' => kk H locs ls' hP hS (hl.st2 (i := 2) (v := vL a) (nc_s 1 rfl hn) h'))
theorem V_aload_2 (hx : OK x z own cc nL ret fr lo mc ms) {o0 o1 : Option Value} {r : List (Option Value)} {a : Int} (hd : decode cc pc = .ok (.aload_n 2, 1)) (kk : V x z Po N I k n (pc + 1) (o0 :: o1 :: some (vR z a) :: r) (vR z a :: st)) : V x z Po N I k n pc (o0 :: o1 :: some (vR z a) :: r) st := by
  intro H locs ls hP hS hl
  have h0 := hl.2.2 2 _ rfl
  have h1 := kk H locs ls hP hS hl
  rcases Int.lt_or_le a 0 with q | q
  · rw [vR_null q] at h0 h1
    exact lv_aload_nN hx.1 hx.2.1 hd rfl h0 h1
  · rw [vR_ref q] at h0 h1
    exact lv_aload_n hx.1 hx.2.1 hd rfl h0 h1
theorem V_astore_2 (hx : OK x z own cc nL ret fr lo mc ms) {o0 o1 : Option Value} {r : List (Option Value)} {o : Option Value} {a : Int} (hn : nc2 o1) (hd : decode cc pc = .ok (.astore_n 2, 1)) (kk : V x z Po N I k n (pc + 1) (o0 :: o1 :: some (vR z a) :: r) st) : V x z Po N I k n pc (o0 :: o1 :: o :: r) (vR z a :: st) := by
  intro H locs ls hP hS hl
  have h1 := fun ls' h' => kk H locs ls' hP hS (hl.st1 (i := 2) (v := vR z a) (nc_s 1 rfl hn) h')
  rcases Int.lt_or_le a 0 with q | q
  · rw [vR_null q] at h1 ⊢
    exact lv_astore_nN hx.1 hx.2.1 hd rfl hl.has (show 2 < r.length + 3 by omega) rfl h1
  · rw [vR_ref q] at h1 ⊢
    exact lv_astore_n hx.1 hx.2.1 hd rfl hl.has (show 2 < r.length + 3 by omega) rfl h1
theorem V_iinc_2 (hx : OK x z own cc nL ret fr lo mc ms) {o0 o1 : Option Value} {r : List (Option Value)} {a c : Int} (hn : nc2 o1) (hd : decode cc pc = .ok (.iinc 2 c, 3)) (kk : V x z Po N I k n (pc + 3) (o0 :: o1 :: some (vI (a + c)) :: r) st) : V x z Po N I k n pc (o0 :: o1 :: some (vI a) :: r) st := by
  intro H locs ls hP hS hl
  obtain ⟨q, hq⟩ := List.getElem?_of_mem (prs_mem.mpr (show (o0 :: o1 :: some (vI a) :: r)[2]? = some (some (vI a)) from rfl))
  exact lv_iinc (v := Int32.ofInt (a + c)) hx.1 hx.2.1 hd hl.has hq (by rw [Int32.ofInt_add]) (show 2 < r.length + 3 by omega) rfl (fun ls' h' => kk H locs ls' hP hS (hl.st1 (i := 2) (v := vI (a + c)) (nc_s 1 rfl hn) h'))
theorem V_iload_3 (hx : OK x z own cc nL ret fr lo mc ms) {o0 o1 o2 : Option Value} {r : List (Option Value)} {a : Int} (hd : decode cc pc = .ok (.iload_n 3, 1)) (kk : V x z Po N I k n (pc + 1) (o0 :: o1 :: o2 :: some (vI a) :: r) (vI a :: st)) : V x z Po N I k n pc (o0 :: o1 :: o2 :: some (vI a) :: r) st := fun H locs ls hP hS hl => lv_iload_n hx.1 hx.2.1 hd rfl (hl.2.2 3 _ rfl) (kk H locs ls hP hS hl)
theorem V_istore_3 (hx : OK x z own cc nL ret fr lo mc ms) {o0 o1 o2 : Option Value} {r : List (Option Value)} {o : Option Value} {a : Int} (hn : nc2 o2) (hd : decode cc pc = .ok (.istore_n 3, 1)) (kk : V x z Po N I k n (pc + 1) (o0 :: o1 :: o2 :: some (vI a) :: r) st) : V x z Po N I k n pc (o0 :: o1 :: o2 :: o :: r) (vI a :: st) := fun H locs ls hP hS hl => lv_istore_n hx.1 hx.2.1 hd rfl hl.has (show 3 < r.length + 4 by omega) rfl (fun ls' h' => kk H locs ls' hP hS (hl.st1 (i := 3) (v := vI a) (nc_s 2 rfl hn) h'))
theorem V_lload_3 (hx : OK x z own cc nL ret fr lo mc ms) {o0 o1 o2 : Option Value} {r : List (Option Value)} {a : Int} (hd : decode cc pc = .ok (.lload_n 3, 1)) (kk : V x z Po N I k n (pc + 1) (o0 :: o1 :: o2 :: some (vL a) :: r) (vL a :: st)) : V x z Po N I k n pc (o0 :: o1 :: o2 :: some (vL a) :: r) st := fun H locs ls hP hS hl => lv_lload_n hx.1 hx.2.1 hd rfl (hl.2.2 3 _ rfl) (kk H locs ls hP hS hl)
theorem V_lstore_3 (hx : OK x z own cc nL ret fr lo mc ms) {o0 o1 o2 : Option Value} {r : List (Option Value)} {o o' : Option Value} {a : Int} (hn : nc2 o2) (hd : decode cc pc = .ok (.lstore_n 3, 1)) (kk : V x z Po N I k n (pc + 1) (o0 :: o1 :: o2 :: some (vL a) :: none :: r) st) : V x z Po N I k n pc (o0 :: o1 :: o2 :: o :: o' :: r) (vL a :: st) := fun H locs ls hP hS hl => lv_lstore_n hx.1 hx.2.1 hd rfl hl.has (show 3 + 1 < r.length + 5 by omega) rfl (fun ls' h' => kk H locs ls' hP hS (hl.st2 (i := 3) (v := vL a) (nc_s 2 rfl hn) h'))
theorem V_aload_3 (hx : OK x z own cc nL ret fr lo mc ms) {o0 o1 o2 : Option Value} {r : List (Option Value)} {a : Int} (hd : decode cc pc = .ok (.aload_n 3, 1)) (kk : V x z Po N I k n (pc + 1) (o0 :: o1 :: o2 :: some (vR z a) :: r) (vR z a :: st)) : V x z Po N I k n pc (o0 :: o1 :: o2 :: some (vR z a) :: r) st := by
  intro H locs ls hP hS hl
  have h0 := hl.2.2 3 _ rfl
  have h1 := kk H locs ls hP hS hl
  rcases Int.lt_or_le a 0 with q | q
  · rw [vR_null q] at h0 h1
    exact lv_aload_nN hx.1 hx.2.1 hd rfl h0 h1
  · rw [vR_ref q] at h0 h1
    exact lv_aload_n hx.1 hx.2.1 hd rfl h0 h1
theorem V_astore_3 (hx : OK x z own cc nL ret fr lo mc ms) {o0 o1 o2 : Option Value} {r : List (Option Value)} {o : Option Value} {a : Int} (hn : nc2 o2) (hd : decode cc pc = .ok (.astore_n 3, 1)) (kk : V x z Po N I k n (pc + 1) (o0 :: o1 :: o2 :: some (vR z a) :: r) st) : V x z Po N I k n pc (o0 :: o1 :: o2 :: o :: r) (vR z a :: st) := by
  intro H locs ls hP hS hl
  have h1 := fun ls' h' => kk H locs ls' hP hS (hl.st1 (i := 3) (v := vR z a) (nc_s 2 rfl hn) h')
  rcases Int.lt_or_le a 0 with q | q
  · rw [vR_null q] at h1 ⊢
    exact lv_astore_nN hx.1 hx.2.1 hd rfl hl.has (show 3 < r.length + 4 by omega) rfl h1
  · rw [vR_ref q] at h1 ⊢
    exact lv_astore_n hx.1 hx.2.1 hd rfl hl.has (show 3 < r.length + 4 by omega) rfl h1
theorem V_iinc_3 (hx : OK x z own cc nL ret fr lo mc ms) {o0 o1 o2 : Option Value} {r : List (Option Value)} {a c : Int} (hn : nc2 o2) (hd : decode cc pc = .ok (.iinc 3 c, 3)) (kk : V x z Po N I k n (pc + 3) (o0 :: o1 :: o2 :: some (vI (a + c)) :: r) st) : V x z Po N I k n pc (o0 :: o1 :: o2 :: some (vI a) :: r) st := by
  intro H locs ls hP hS hl
  obtain ⟨q, hq⟩ := List.getElem?_of_mem (prs_mem.mpr (show (o0 :: o1 :: o2 :: some (vI a) :: r)[3]? = some (some (vI a)) from rfl))
  exact lv_iinc (v := Int32.ofInt (a + c)) hx.1 hx.2.1 hd hl.has hq (by rw [Int32.ofInt_add]) (show 3 < r.length + 4 by omega) rfl (fun ls' h' => kk H locs ls' hP hS (hl.st1 (i := 3) (v := vI (a + c)) (nc_s 2 rfl hn) h'))
theorem V_iload_4 (hx : OK x z own cc nL ret fr lo mc ms) {o0 o1 o2 o3 : Option Value} {r : List (Option Value)} {a : Int} (hd : decode cc pc = .ok (.iload 4, 2)) (kk : V x z Po N I k n (pc + 2) (o0 :: o1 :: o2 :: o3 :: some (vI a) :: r) (vI a :: st)) : V x z Po N I k n pc (o0 :: o1 :: o2 :: o3 :: some (vI a) :: r) st := fun H locs ls hP hS hl => lv_iload hx.1 hx.2.1 hd (hl.2.2 4 _ rfl) (kk H locs ls hP hS hl)
theorem V_istore_4 (hx : OK x z own cc nL ret fr lo mc ms) {o0 o1 o2 o3 : Option Value} {r : List (Option Value)} {o : Option Value} {a : Int} (hn : nc2 o3) (hd : decode cc pc = .ok (.istore 4, 2)) (kk : V x z Po N I k n (pc + 2) (o0 :: o1 :: o2 :: o3 :: some (vI a) :: r) st) : V x z Po N I k n pc (o0 :: o1 :: o2 :: o3 :: o :: r) (vI a :: st) := fun H locs ls hP hS hl => lv_istore hx.1 hx.2.1 hd hl.has (show 4 < r.length + 5 by omega) rfl (fun ls' h' => kk H locs ls' hP hS (hl.st1 (i := 4) (v := vI a) (nc_s 3 rfl hn) h'))
theorem V_lload_4 (hx : OK x z own cc nL ret fr lo mc ms) {o0 o1 o2 o3 : Option Value} {r : List (Option Value)} {a : Int} (hd : decode cc pc = .ok (.lload 4, 2)) (kk : V x z Po N I k n (pc + 2) (o0 :: o1 :: o2 :: o3 :: some (vL a) :: r) (vL a :: st)) : V x z Po N I k n pc (o0 :: o1 :: o2 :: o3 :: some (vL a) :: r) st := fun H locs ls hP hS hl => lv_lload hx.1 hx.2.1 hd (hl.2.2 4 _ rfl) (kk H locs ls hP hS hl)
theorem V_lstore_4 (hx : OK x z own cc nL ret fr lo mc ms) {o0 o1 o2 o3 : Option Value} {r : List (Option Value)} {o o' : Option Value} {a : Int} (hn : nc2 o3) (hd : decode cc pc = .ok (.lstore 4, 2)) (kk : V x z Po N I k n (pc + 2) (o0 :: o1 :: o2 :: o3 :: some (vL a) :: none :: r) st) : V x z Po N I k n pc (o0 :: o1 :: o2 :: o3 :: o :: o' :: r) (vL a :: st) := fun H locs ls hP hS hl => lv_lstore hx.1 hx.2.1 hd hl.has (show 4 + 1 < r.length + 6 by omega) rfl (fun ls' h' => kk H locs ls' hP hS (hl.st2 (i := 4) (v := vL a) (nc_s 3 rfl hn) h'))
theorem V_aload_4 (hx : OK x z own cc nL ret fr lo mc ms) {o0 o1 o2 o3 : Option Value} {r : List (Option Value)} {a : Int} (hd : decode cc pc = .ok (.aload 4, 2)) (kk : V x z Po N I k n (pc + 2) (o0 :: o1 :: o2 :: o3 :: some (vR z a) :: r) (vR z a :: st)) : V x z Po N I k n pc (o0 :: o1 :: o2 :: o3 :: some (vR z a) :: r) st := by
  intro H locs ls hP hS hl
  have h0 := hl.2.2 4 _ rfl
  have h1 := kk H locs ls hP hS hl
  rcases Int.lt_or_le a 0 with q | q
  · rw [vR_null q] at h0 h1
    exact lv_aloadN hx.1 hx.2.1 hd h0 h1
  · rw [vR_ref q] at h0 h1
    exact lv_aload hx.1 hx.2.1 hd h0 h1
theorem V_astore_4 (hx : OK x z own cc nL ret fr lo mc ms) {o0 o1 o2 o3 : Option Value} {r : List (Option Value)} {o : Option Value} {a : Int} (hn : nc2 o3) (hd : decode cc pc = .ok (.astore 4, 2)) (kk : V x z Po N I k n (pc + 2) (o0 :: o1 :: o2 :: o3 :: some (vR z a) :: r) st) : V x z Po N I k n pc (o0 :: o1 :: o2 :: o3 :: o :: r) (vR z a :: st) := by
  intro H locs ls hP hS hl
  have h1 := fun ls' h' => kk H locs ls' hP hS (hl.st1 (i := 4) (v := vR z a) (nc_s 3 rfl hn) h')
  rcases Int.lt_or_le a 0 with q | q
  · rw [vR_null q] at h1 ⊢
    exact lv_astoreN hx.1 hx.2.1 hd hl.has (show 4 < r.length + 5 by omega) rfl h1
  · rw [vR_ref q] at h1 ⊢
    exact lv_astore hx.1 hx.2.1 hd hl.has (show 4 < r.length + 5 by omega) rfl h1
theorem V_iinc_4 (hx : OK x z own cc nL ret fr lo mc ms) {o0 o1 o2 o3 : Option Value} {r : List (Option Value)} {a c : Int} (hn : nc2 o3) (hd : decode cc pc = .ok (.iinc 4 c, 3)) (kk : V x z Po N I k n (pc + 3) (o0 :: o1 :: o2 :: o3 :: some (vI (a + c)) :: r) st) : V x z Po N I k n pc (o0 :: o1 :: o2 :: o3 :: some (vI a) :: r) st := by
  intro H locs ls hP hS hl
  obtain ⟨q, hq⟩ := List.getElem?_of_mem (prs_mem.mpr (show (o0 :: o1 :: o2 :: o3 :: some (vI a) :: r)[4]? = some (some (vI a)) from rfl))
  exact lv_iinc (v := Int32.ofInt (a + c)) hx.1 hx.2.1 hd hl.has hq (by rw [Int32.ofInt_add]) (show 4 < r.length + 5 by omega) rfl (fun ls' h' => kk H locs ls' hP hS (hl.st1 (i := 4) (v := vI (a + c)) (nc_s 3 rfl hn) h'))
theorem V_iload_5 (hx : OK x z own cc nL ret fr lo mc ms) {o0 o1 o2 o3 o4 : Option Value} {r : List (Option Value)} {a : Int} (hd : decode cc pc = .ok (.iload 5, 2)) (kk : V x z Po N I k n (pc + 2) (o0 :: o1 :: o2 :: o3 :: o4 :: some (vI a) :: r) (vI a :: st)) : V x z Po N I k n pc (o0 :: o1 :: o2 :: o3 :: o4 :: some (vI a) :: r) st := fun H locs ls hP hS hl => lv_iload hx.1 hx.2.1 hd (hl.2.2 5 _ rfl) (kk H locs ls hP hS hl)
theorem V_istore_5 (hx : OK x z own cc nL ret fr lo mc ms) {o0 o1 o2 o3 o4 : Option Value} {r : List (Option Value)} {o : Option Value} {a : Int} (hn : nc2 o4) (hd : decode cc pc = .ok (.istore 5, 2)) (kk : V x z Po N I k n (pc + 2) (o0 :: o1 :: o2 :: o3 :: o4 :: some (vI a) :: r) st) : V x z Po N I k n pc (o0 :: o1 :: o2 :: o3 :: o4 :: o :: r) (vI a :: st) := fun H locs ls hP hS hl => lv_istore hx.1 hx.2.1 hd hl.has (show 5 < r.length + 6 by omega) rfl (fun ls' h' => kk H locs ls' hP hS (hl.st1 (i := 5) (v := vI a) (nc_s 4 rfl hn) h'))
theorem V_lload_5 (hx : OK x z own cc nL ret fr lo mc ms) {o0 o1 o2 o3 o4 : Option Value} {r : List (Option Value)} {a : Int} (hd : decode cc pc = .ok (.lload 5, 2)) (kk : V x z Po N I k n (pc + 2) (o0 :: o1 :: o2 :: o3 :: o4 :: some (vL a) :: r) (vL a :: st)) : V x z Po N I k n pc (o0 :: o1 :: o2 :: o3 :: o4 :: some (vL a) :: r) st := fun H locs ls hP hS hl => lv_lload hx.1 hx.2.1 hd (hl.2.2 5 _ rfl) (kk H locs ls hP hS hl)
theorem V_lstore_5 (hx : OK x z own cc nL ret fr lo mc ms) {o0 o1 o2 o3 o4 : Option Value} {r : List (Option Value)} {o o' : Option Value} {a : Int} (hn : nc2 o4) (hd : decode cc pc = .ok (.lstore 5, 2)) (kk : V x z Po N I k n (pc + 2) (o0 :: o1 :: o2 :: o3 :: o4 :: some (vL a) :: none :: r) st) : V x z Po N I k n pc (o0 :: o1 :: o2 :: o3 :: o4 :: o :: o' :: r) (vL a :: st) := fun H locs ls hP hS hl => lv_lstore hx.1 hx.2.1 hd hl.has (show 5 + 1 < r.length + 7 by omega) rfl (fun ls' h' => kk H locs ls' hP hS (hl.st2 (i := 5) (v := vL a) (nc_s 4 rfl hn) h'))
theorem V_aload_5 (hx : OK x z own cc nL ret fr lo mc ms) {o0 o1 o2 o3 o4 : Option Value} {r : List (Option Value)} {a : Int} (hd : decode cc pc = .ok (.aload 5, 2)) (kk : V x z Po N I k n (pc + 2) (o0 :: o1 :: o2 :: o3 :: o4 :: some (vR z a) :: r) (vR z a :: st)) : V x z Po N I k n pc (o0 :: o1 :: o2 :: o3 :: o4 :: some (vR z a) :: r) st := by
  intro H locs ls hP hS hl
  have h0 := hl.2.2 5 _ rfl
  have h1 := kk H locs ls hP hS hl
  rcases Int.lt_or_le a 0 with q | q
  · rw [vR_null q] at h0 h1
    exact lv_aloadN hx.1 hx.2.1 hd h0 h1
  · rw [vR_ref q] at h0 h1
    exact lv_aload hx.1 hx.2.1 hd h0 h1
theorem V_astore_5 (hx : OK x z own cc nL ret fr lo mc ms) {o0 o1 o2 o3 o4 : Option Value} {r : List (Option Value)} {o : Option Value} {a : Int} (hn : nc2 o4) (hd : decode cc pc = .ok (.astore 5, 2)) (kk : V x z Po N I k n (pc + 2) (o0 :: o1 :: o2 :: o3 :: o4 :: some (vR z a) :: r) st) : V x z Po N I k n pc (o0 :: o1 :: o2 :: o3 :: o4 :: o :: r) (vR z a :: st) := by
  intro H locs ls hP hS hl
  have h1 := fun ls' h' => kk H locs ls' hP hS (hl.st1 (i := 5) (v := vR z a) (nc_s 4 rfl hn) h')
  rcases Int.lt_or_le a 0 with q | q
  · rw [vR_null q] at h1 ⊢
    exact lv_astoreN hx.1 hx.2.1 hd hl.has (show 5 < r.length + 6 by omega) rfl h1
  · rw [vR_ref q] at h1 ⊢
    exact lv_astore hx.1 hx.2.1 hd hl.has (show 5 < r.length + 6 by omega) rfl h1
theorem V_iinc_5 (hx : OK x z own cc nL ret fr lo mc ms) {o0 o1 o2 o3 o4 : Option Value} {r : List (Option Value)} {a c : Int} (hn : nc2 o4) (hd : decode cc pc = .ok (.iinc 5 c, 3)) (kk : V x z Po N I k n (pc + 3) (o0 :: o1 :: o2 :: o3 :: o4 :: some (vI (a + c)) :: r) st) : V x z Po N I k n pc (o0 :: o1 :: o2 :: o3 :: o4 :: some (vI a) :: r) st := by
  intro H locs ls hP hS hl
  obtain ⟨q, hq⟩ := List.getElem?_of_mem (prs_mem.mpr (show (o0 :: o1 :: o2 :: o3 :: o4 :: some (vI a) :: r)[5]? = some (some (vI a)) from rfl))
  exact lv_iinc (v := Int32.ofInt (a + c)) hx.1 hx.2.1 hd hl.has hq (by rw [Int32.ofInt_add]) (show 5 < r.length + 6 by omega) rfl (fun ls' h' => kk H locs ls' hP hS (hl.st1 (i := 5) (v := vI (a + c)) (nc_s 4 rfl hn) h'))
theorem V_iload_6 (hx : OK x z own cc nL ret fr lo mc ms) {o0 o1 o2 o3 o4 o5 : Option Value} {r : List (Option Value)} {a : Int} (hd : decode cc pc = .ok (.iload 6, 2)) (kk : V x z Po N I k n (pc + 2) (o0 :: o1 :: o2 :: o3 :: o4 :: o5 :: some (vI a) :: r) (vI a :: st)) : V x z Po N I k n pc (o0 :: o1 :: o2 :: o3 :: o4 :: o5 :: some (vI a) :: r) st := fun H locs ls hP hS hl => lv_iload hx.1 hx.2.1 hd (hl.2.2 6 _ rfl) (kk H locs ls hP hS hl)
theorem V_istore_6 (hx : OK x z own cc nL ret fr lo mc ms) {o0 o1 o2 o3 o4 o5 : Option Value} {r : List (Option Value)} {o : Option Value} {a : Int} (hn : nc2 o5) (hd : decode cc pc = .ok (.istore 6, 2)) (kk : V x z Po N I k n (pc + 2) (o0 :: o1 :: o2 :: o3 :: o4 :: o5 :: some (vI a) :: r) st) : V x z Po N I k n pc (o0 :: o1 :: o2 :: o3 :: o4 :: o5 :: o :: r) (vI a :: st) := fun H locs ls hP hS hl => lv_istore hx.1 hx.2.1 hd hl.has (show 6 < r.length + 7 by omega) rfl (fun ls' h' => kk H locs ls' hP hS (hl.st1 (i := 6) (v := vI a) (nc_s 5 rfl hn) h'))
theorem V_lload_6 (hx : OK x z own cc nL ret fr lo mc ms) {o0 o1 o2 o3 o4 o5 : Option Value} {r : List (Option Value)} {a : Int} (hd : decode cc pc = .ok (.lload 6, 2)) (kk : V x z Po N I k n (pc + 2) (o0 :: o1 :: o2 :: o3 :: o4 :: o5 :: some (vL a) :: r) (vL a :: st)) : V x z Po N I k n pc (o0 :: o1 :: o2 :: o3 :: o4 :: o5 :: some (vL a) :: r) st := fun H locs ls hP hS hl => lv_lload hx.1 hx.2.1 hd (hl.2.2 6 _ rfl) (kk H locs ls hP hS hl)
theorem V_lstore_6 (hx : OK x z own cc nL ret fr lo mc ms) {o0 o1 o2 o3 o4 o5 : Option Value} {r : List (Option Value)} {o o' : Option Value} {a : Int} (hn : nc2 o5) (hd : decode cc pc = .ok (.lstore 6, 2)) (kk : V x z Po N I k n (pc + 2) (o0 :: o1 :: o2 :: o3 :: o4 :: o5 :: some (vL a) :: none :: r) st) : V x z Po N I k n pc (o0 :: o1 :: o2 :: o3 :: o4 :: o5 :: o :: o' :: r) (vL a :: st) := fun H locs ls hP hS hl => lv_lstore hx.1 hx.2.1 hd hl.has (show 6 + 1 < r.length + 8 by omega) rfl (fun ls' h' => kk H locs ls' hP hS (hl.st2 (i := 6) (v := vL a) (nc_s 5 rfl hn) h'))
theorem V_aload_6 (hx : OK x z own cc nL ret fr lo mc ms) {o0 o1 o2 o3 o4 o5 : Option Value} {r : List (Option Value)} {a : Int} (hd : decode cc pc = .ok (.aload 6, 2)) (kk : V x z Po N I k n (pc + 2) (o0 :: o1 :: o2 :: o3 :: o4 :: o5 :: some (vR z a) :: r) (vR z a :: st)) : V x z Po N I k n pc (o0 :: o1 :: o2 :: o3 :: o4 :: o5 :: some (vR z a) :: r) st := by
  intro H locs ls hP hS hl
  have h0 := hl.2.2 6 _ rfl
  have h1 := kk H locs ls hP hS hl
  rcases Int.lt_or_le a 0 with q | q
  · rw [vR_null q] at h0 h1
    exact lv_aloadN hx.1 hx.2.1 hd h0 h1
  · rw [vR_ref q] at h0 h1
    exact lv_aload hx.1 hx.2.1 hd h0 h1
theorem V_astore_6 (hx : OK x z own cc nL ret fr lo mc ms) {o0 o1 o2 o3 o4 o5 : Option Value} {r : List (Option Value)} {o : Option Value} {a : Int} (hn : nc2 o5) (hd : decode cc pc = .ok (.astore 6, 2)) (kk : V x z Po N I k n (pc + 2) (o0 :: o1 :: o2 :: o3 :: o4 :: o5 :: some (vR z a) :: r) st) : V x z Po N I k n pc (o0 :: o1 :: o2 :: o3 :: o4 :: o5 :: o :: r) (vR z a :: st) := by
  intro H locs ls hP hS hl
  have h1 := fun ls' h' => kk H locs ls' hP hS (hl.st1 (i := 6) (v := vR z a) (nc_s 5 rfl hn) h')
  rcases Int.lt_or_le a 0 with q | q
  · rw [vR_null q] at h1 ⊢
    exact lv_astoreN hx.1 hx.2.1 hd hl.has (show 6 < r.length + 7 by omega) rfl h1
  · rw [vR_ref q] at h1 ⊢
    exact lv_astore hx.1 hx.2.1 hd hl.has (show 6 < r.length + 7 by omega) rfl h1
theorem V_iinc_6 (hx : OK x z own cc nL ret fr lo mc ms) {o0 o1 o2 o3 o4 o5 : Option Value} {r : List (Option Value)} {a c : Int} (hn : nc2 o5) (hd : decode cc pc = .ok (.iinc 6 c, 3)) (kk : V x z Po N I k n (pc + 3) (o0 :: o1 :: o2 :: o3 :: o4 :: o5 :: some (vI (a + c)) :: r) st) : V x z Po N I k n pc (o0 :: o1 :: o2 :: o3 :: o4 :: o5 :: some (vI a) :: r) st := by
  intro H locs ls hP hS hl
  obtain ⟨q, hq⟩ := List.getElem?_of_mem (prs_mem.mpr (show (o0 :: o1 :: o2 :: o3 :: o4 :: o5 :: some (vI a) :: r)[6]? = some (some (vI a)) from rfl))
  exact lv_iinc (v := Int32.ofInt (a + c)) hx.1 hx.2.1 hd hl.has hq (by rw [Int32.ofInt_add]) (show 6 < r.length + 7 by omega) rfl (fun ls' h' => kk H locs ls' hP hS (hl.st1 (i := 6) (v := vI (a + c)) (nc_s 5 rfl hn) h'))
theorem V_iload_7 (hx : OK x z own cc nL ret fr lo mc ms) {o0 o1 o2 o3 o4 o5 o6 : Option Value} {r : List (Option Value)} {a : Int} (hd : decode cc pc = .ok (.iload 7, 2)) (kk : V x z Po N I k n (pc + 2) (o0 :: o1 :: o2 :: o3 :: o4 :: o5 :: o6 :: some (vI a) :: r) (vI a :: st)) : V x z Po N I k n pc (o0 :: o1 :: o2 :: o3 :: o4 :: o5 :: o6 :: some (vI a) :: r) st := fun H locs ls hP hS hl => lv_iload hx.1 hx.2.1 hd (hl.2.2 7 _ rfl) (kk H locs ls hP hS hl)
theorem V_istore_7 (hx : OK x z own cc nL ret fr lo mc ms) {o0 o1 o2 o3 o4 o5 o6 : Option Value} {r : List (Option Value)} {o : Option Value} {a : Int} (hn : nc2 o6) (hd : decode cc pc = .ok (.istore 7, 2)) (kk : V x z Po N I k n (pc + 2) (o0 :: o1 :: o2 :: o3 :: o4 :: o5 :: o6 :: some (vI a) :: r) st) : V x z Po N I k n pc (o0 :: o1 :: o2 :: o3 :: o4 :: o5 :: o6 :: o :: r) (vI a :: st) := fun H locs ls hP hS hl => lv_istore hx.1 hx.2.1 hd hl.has (show 7 < r.length + 8 by omega) rfl (fun ls' h' => kk H locs ls' hP hS (hl.st1 (i := 7) (v := vI a) (nc_s 6 rfl hn) h'))
theorem V_lload_7 (hx : OK x z own cc nL ret fr lo mc ms) {o0 o1 o2 o3 o4 o5 o6 : Option Value} {r : List (Option Value)} {a : Int} (hd : decode cc pc = .ok (.lload 7, 2)) (kk : V x z Po N I k n (pc + 2) (o0 :: o1 :: o2 :: o3 :: o4 :: o5 :: o6 :: some (vL a) :: r) (vL a :: st)) : V x z Po N I k n pc (o0 :: o1 :: o2 :: o3 :: o4 :: o5 :: o6 :: some (vL a) :: r) st := fun H locs ls hP hS hl => lv_lload hx.1 hx.2.1 hd (hl.2.2 7 _ rfl) (kk H locs ls hP hS hl)
theorem V_lstore_7 (hx : OK x z own cc nL ret fr lo mc ms) {o0 o1 o2 o3 o4 o5 o6 : Option Value} {r : List (Option Value)} {o o' : Option Value} {a : Int} (hn : nc2 o6) (hd : decode cc pc = .ok (.lstore 7, 2)) (kk : V x z Po N I k n (pc + 2) (o0 :: o1 :: o2 :: o3 :: o4 :: o5 :: o6 :: some (vL a) :: none :: r) st) : V x z Po N I k n pc (o0 :: o1 :: o2 :: o3 :: o4 :: o5 :: o6 :: o :: o' :: r) (vL a :: st) := fun H locs ls hP hS hl => lv_lstore hx.1 hx.2.1 hd hl.has (show 7 + 1 < r.length + 9 by omega) rfl (fun ls' h' => kk H locs ls' hP hS (hl.st2 (i := 7) (v := vL a) (nc_s 6 rfl hn) h'))
theorem V_aload_7 (hx : OK x z own cc nL ret fr lo mc ms) {o0 o1 o2 o3 o4 o5 o6 : Option Value} {r : List (Option Value)} {a : Int} (hd : decode cc pc = .ok (.aload 7, 2)) (kk : V x z Po N I k n (pc + 2) (o0 :: o1 :: o2 :: o3 :: o4 :: o5 :: o6 :: some (vR z a) :: r) (vR z a :: st)) : V x z Po N I k n pc (o0 :: o1 :: o2 :: o3 :: o4 :: o5 :: o6 :: some (vR z a) :: r) st := by
  intro H locs ls hP hS hl
  have h0 := hl.2.2 7 _ rfl
  have h1 := kk H locs ls hP hS hl
  rcases Int.lt_or_le a 0 with q | q
  · rw [vR_null q] at h0 h1
    exact lv_aloadN hx.1 hx.2.1 hd h0 h1
  · rw [vR_ref q] at h0 h1
    exact lv_aload hx.1 hx.2.1 hd h0 h1
theorem V_astore_7 (hx : OK x z own cc nL ret fr lo mc ms) {o0 o1 o2 o3 o4 o5 o6 : Option Value} {r : List (Option Value)} {o : Option Value} {a : Int} (hn : nc2 o6) (hd : decode cc pc = .ok (.astore 7, 2)) (kk : V x z Po N I k n (pc + 2) (o0 :: o1 :: o2 :: o3 :: o4 :: o5 :: o6 :: some (vR z a) :: r) st) : V x z Po N I k n pc (o0 :: o1 :: o2 :: o3 :: o4 :: o5 :: o6 :: o :: r) (vR z a :: st) := by
  intro H locs ls hP hS hl
  have h1 := fun ls' h' => kk H locs ls' hP hS (hl.st1 (i := 7) (v := vR z a) (nc_s 6 rfl hn) h')
  rcases Int.lt_or_le a 0 with q | q
  · rw [vR_null q] at h1 ⊢
    exact lv_astoreN hx.1 hx.2.1 hd hl.has (show 7 < r.length + 8 by omega) rfl h1
  · rw [vR_ref q] at h1 ⊢
    exact lv_astore hx.1 hx.2.1 hd hl.has (show 7 < r.length + 8 by omega) rfl h1
theorem V_iinc_7 (hx : OK x z own cc nL ret fr lo mc ms) {o0 o1 o2 o3 o4 o5 o6 : Option Value} {r : List (Option Value)} {a c : Int} (hn : nc2 o6) (hd : decode cc pc = .ok (.iinc 7 c, 3)) (kk : V x z Po N I k n (pc + 3) (o0 :: o1 :: o2 :: o3 :: o4 :: o5 :: o6 :: some (vI (a + c)) :: r) st) : V x z Po N I k n pc (o0 :: o1 :: o2 :: o3 :: o4 :: o5 :: o6 :: some (vI a) :: r) st := by
  intro H locs ls hP hS hl
  obtain ⟨q, hq⟩ := List.getElem?_of_mem (prs_mem.mpr (show (o0 :: o1 :: o2 :: o3 :: o4 :: o5 :: o6 :: some (vI a) :: r)[7]? = some (some (vI a)) from rfl))
  exact lv_iinc (v := Int32.ofInt (a + c)) hx.1 hx.2.1 hd hl.has hq (by rw [Int32.ofInt_add]) (show 7 < r.length + 8 by omega) rfl (fun ls' h' => kk H locs ls' hP hS (hl.st1 (i := 7) (v := vI (a + c)) (nc_s 6 rfl hn) h'))
theorem V_iload_8 (hx : OK x z own cc nL ret fr lo mc ms) {o0 o1 o2 o3 o4 o5 o6 o7 : Option Value} {r : List (Option Value)} {a : Int} (hd : decode cc pc = .ok (.iload 8, 2)) (kk : V x z Po N I k n (pc + 2) (o0 :: o1 :: o2 :: o3 :: o4 :: o5 :: o6 :: o7 :: some (vI a) :: r) (vI a :: st)) : V x z Po N I k n pc (o0 :: o1 :: o2 :: o3 :: o4 :: o5 :: o6 :: o7 :: some (vI a) :: r) st := fun H locs ls hP hS hl => lv_iload hx.1 hx.2.1 hd (hl.2.2 8 _ rfl) (kk H locs ls hP hS hl)
theorem V_istore_8 (hx : OK x z own cc nL ret fr lo mc ms) {o0 o1 o2 o3 o4 o5 o6 o7 : Option Value} {r : List (Option Value)} {o : Option Value} {a : Int} (hn : nc2 o7) (hd : decode cc pc = .ok (.istore 8, 2)) (kk : V x z Po N I k n (pc + 2) (o0 :: o1 :: o2 :: o3 :: o4 :: o5 :: o6 :: o7 :: some (vI a) :: r) st) : V x z Po N I k n pc (o0 :: o1 :: o2 :: o3 :: o4 :: o5 :: o6 :: o7 :: o :: r) (vI a :: st) := fun H locs ls hP hS hl => lv_istore hx.1 hx.2.1 hd hl.has (show 8 < r.length + 9 by omega) rfl (fun ls' h' => kk H locs ls' hP hS (hl.st1 (i := 8) (v := vI a) (nc_s 7 rfl hn) h'))
theorem V_lload_8 (hx : OK x z own cc nL ret fr lo mc ms) {o0 o1 o2 o3 o4 o5 o6 o7 : Option Value} {r : List (Option Value)} {a : Int} (hd : decode cc pc = .ok (.lload 8, 2)) (kk : V x z Po N I k n (pc + 2) (o0 :: o1 :: o2 :: o3 :: o4 :: o5 :: o6 :: o7 :: some (vL a) :: r) (vL a :: st)) : V x z Po N I k n pc (o0 :: o1 :: o2 :: o3 :: o4 :: o5 :: o6 :: o7 :: some (vL a) :: r) st := fun H locs ls hP hS hl => lv_lload hx.1 hx.2.1 hd (hl.2.2 8 _ rfl) (kk H locs ls hP hS hl)
theorem V_lstore_8 (hx : OK x z own cc nL ret fr lo mc ms) {o0 o1 o2 o3 o4 o5 o6 o7 : Option Value} {r : List (Option Value)} {o o' : Option Value} {a : Int} (hn : nc2 o7) (hd : decode cc pc = .ok (.lstore 8, 2)) (kk : V x z Po N I k n (pc + 2) (o0 :: o1 :: o2 :: o3 :: o4 :: o5 :: o6 :: o7 :: some (vL a) :: none :: r) st) : V x z Po N I k n pc (o0 :: o1 :: o2 :: o3 :: o4 :: o5 :: o6 :: o7 :: o :: o' :: r) (vL a :: st) := fun H locs ls hP hS hl => lv_lstore hx.1 hx.2.1 hd hl.has (show 8 + 1 < r.length + 10 by omega) rfl (fun ls' h' => kk H locs ls' hP hS (hl.st2 (i := 8) (v := vL a) (nc_s 7 rfl hn) h'))
theorem V_aload_8 (hx : OK x z own cc nL ret fr lo mc ms) {o0 o1 o2 o3 o4 o5 o6 o7 : Option Value} {r : List (Option Value)} {a : Int} (hd : decode cc pc = .ok (.aload 8, 2)) (kk : V x z Po N I k n (pc + 2) (o0 :: o1 :: o2 :: o3 :: o4 :: o5 :: o6 :: o7 :: some (vR z a) :: r) (vR z a :: st)) : V x z Po N I k n pc (o0 :: o1 :: o2 :: o3 :: o4 :: o5 :: o6 :: o7 :: some (vR z a) :: r) st := by
  intro H locs ls hP hS hl
  have h0 := hl.2.2 8 _ rfl
  have h1 := kk H locs ls hP hS hl
  rcases Int.lt_or_le a 0 with q | q
  · rw [vR_null q] at h0 h1
    exact lv_aloadN hx.1 hx.2.1 hd h0 h1
  · rw [vR_ref q] at h0 h1
    exact lv_aload hx.1 hx.2.1 hd h0 h1
theorem V_astore_8 (hx : OK x z own cc nL ret fr lo mc ms) {o0 o1 o2 o3 o4 o5 o6 o7 : Option Value} {r : List (Option Value)} {o : Option Value} {a : Int} (hn : nc2 o7) (hd : decode cc pc = .ok (.astore 8, 2)) (kk : V x z Po N I k n (pc + 2) (o0 :: o1 :: o2 :: o3 :: o4 :: o5 :: o6 :: o7 :: some (vR z a) :: r) st) : V x z Po N I k n pc (o0 :: o1 :: o2 :: o3 :: o4 :: o5 :: o6 :: o7 :: o :: r) (vR z a :: st) := by
  intro H locs ls hP hS hl
  have h1 := fun ls' h' => kk H locs ls' hP hS (hl.st1 (i := 8) (v := vR z a) (nc_s 7 rfl hn) h')
  rcases Int.lt_or_le a 0 with q | q
  · rw [vR_null q] at h1 ⊢
    exact lv_astoreN hx.1 hx.2.1 hd hl.has (show 8 < r.length + 9 by omega) rfl h1
  · rw [vR_ref q] at h1 ⊢
    exact lv_astore hx.1 hx.2.1 hd hl.has (show 8 < r.length + 9 by omega) rfl h1
theorem V_iinc_8 (hx : OK x z own cc nL ret fr lo mc ms) {o0 o1 o2 o3 o4 o5 o6 o7 : Option Value} {r : List (Option Value)} {a c : Int} (hn : nc2 o7) (hd : decode cc pc = .ok (.iinc 8 c, 3)) (kk : V x z Po N I k n (pc + 3) (o0 :: o1 :: o2 :: o3 :: o4 :: o5 :: o6 :: o7 :: some (vI (a + c)) :: r) st) : V x z Po N I k n pc (o0 :: o1 :: o2 :: o3 :: o4 :: o5 :: o6 :: o7 :: some (vI a) :: r) st := by
  intro H locs ls hP hS hl
  obtain ⟨q, hq⟩ := List.getElem?_of_mem (prs_mem.mpr (show (o0 :: o1 :: o2 :: o3 :: o4 :: o5 :: o6 :: o7 :: some (vI a) :: r)[8]? = some (some (vI a)) from rfl))
  exact lv_iinc (v := Int32.ofInt (a + c)) hx.1 hx.2.1 hd hl.has hq (by rw [Int32.ofInt_add]) (show 8 < r.length + 9 by omega) rfl (fun ls' h' => kk H locs ls' hP hS (hl.st1 (i := 8) (v := vI (a + c)) (nc_s 7 rfl hn) h'))
theorem V_iload_9 (hx : OK x z own cc nL ret fr lo mc ms) {o0 o1 o2 o3 o4 o5 o6 o7 o8 : Option Value} {r : List (Option Value)} {a : Int} (hd : decode cc pc = .ok (.iload 9, 2)) (kk : V x z Po N I k n (pc + 2) (o0 :: o1 :: o2 :: o3 :: o4 :: o5 :: o6 :: o7 :: o8 :: some (vI a) :: r) (vI a :: st)) : V x z Po N I k n pc (o0 :: o1 :: o2 :: o3 :: o4 :: o5 :: o6 :: o7 :: o8 :: some (vI a) :: r) st := fun H locs ls hP hS hl => lv_iload hx.1 hx.2.1 hd (hl.2.2 9 _ rfl) (kk H locs ls hP hS hl)
theorem V_istore_9 (hx : OK x z own cc nL ret fr lo mc ms) {o0 o1 o2 o3 o4 o5 o6 o7 o8 : Option Value} {r : List (Option Value)} {o : Option Value} {a : Int} (hn : nc2 o8) (hd : decode cc pc = .ok (.istore 9, 2)) (kk : V x z Po N I k n (pc + 2) (o0 :: o1 :: o2 :: o3 :: o4 :: o5 :: o6 :: o7 :: o8 :: some (vI a) :: r) st) : V x z Po N I k n pc (o0 :: o1 :: o2 :: o3 :: o4 :: o5 :: o6 :: o7 :: o8 :: o :: r) (vI a :: st) := fun H locs ls hP hS hl => lv_istore hx.1 hx.2.1 hd hl.has (show 9 < r.length + 10 by omega) rfl (fun ls' h' => kk H locs ls' hP hS (hl.st1 (i := 9) (v := vI a) (nc_s 8 rfl hn) h'))
theorem V_lload_9 (hx : OK x z own cc nL ret fr lo mc ms) {o0 o1 o2 o3 o4 o5 o6 o7 o8 : Option Value} {r : List (Option Value)} {a : Int} (hd : decode cc pc = .ok (.lload 9, 2)) (kk : V x z Po N I k n (pc + 2) (o0 :: o1 :: o2 :: o3 :: o4 :: o5 :: o6 :: o7 :: o8 :: some (vL a) :: r) (vL a :: st)) : V x z Po N I k n pc (o0 :: o1 :: o2 :: o3 :: o4 :: o5 :: o6 :: o7 :: o8 :: some (vL a) :: r) st := fun H locs ls hP hS hl => lv_lload hx.1 hx.2.1 hd (hl.2.2 9 _ rfl) (kk H locs ls hP hS hl)
theorem V_lstore_9 (hx : OK x z own cc nL ret fr lo mc ms) {o0 o1 o2 o3 o4 o5 o6 o7 o8 : Option Value} {r : List (Option Value)} {o o' : Option Value} {a : Int} (hn : nc2 o8) (hd : decode cc pc = .ok (.lstore 9, 2)) (kk : V x z Po N I k n (pc + 2) (o0 :: o1 :: o2 :: o3 :: o4 :: o5 :: o6 :: o7 :: o8 :: some (vL a) :: none :: r) st) : V x z Po N I k n pc (o0 :: o1 :: o2 :: o3 :: o4 :: o5 :: o6 :: o7 :: o8 :: o :: o' :: r) (vL a :: st) := fun H locs ls hP hS hl => lv_lstore hx.1 hx.2.1 hd hl.has (show 9 + 1 < r.length + 11 by omega) rfl (fun ls' h' => kk H locs ls' hP hS (hl.st2 (i := 9) (v := vL a) (nc_s 8 rfl hn) h'))
theorem V_aload_9 (hx : OK x z own cc nL ret fr lo mc ms) {o0 o1 o2 o3 o4 o5 o6 o7 o8 : Option Value} {r : List (Option Value)} {a : Int} (hd : decode cc pc = .ok (.aload 9, 2)) (kk : V x z Po N I k n (pc + 2) (o0 :: o1 :: o2 :: o3 :: o4 :: o5 :: o6 :: o7 :: o8 :: some (vR z a) :: r) (vR z a :: st)) : V x z Po N I k n pc (o0 :: o1 :: o2 :: o3 :: o4 :: o5 :: o6 :: o7 :: o8 :: some (vR z a) :: r) st := by
  intro H locs ls hP hS hl
  have h0 := hl.2.2 9 _ rfl
  have h1 := kk H locs ls hP hS hl
  rcases Int.lt_or_le a 0 with q | q
  · rw [vR_null q] at h0 h1
    exact lv_aloadN hx.1 hx.2.1 hd h0 h1
  · rw [vR_ref q] at h0 h1
    exact lv_aload hx.1 hx.2.1 hd h0 h1
theorem V_astore_9 (hx : OK x z own cc nL ret fr lo mc ms) {o0 o1 o2 o3 o4 o5 o6 o7 o8 : Option Value} {r : List (Option Value)} {o : Option Value} {a : Int} (hn : nc2 o8) (hd : decode cc pc = .ok (.astore 9, 2)) (kk : V x z Po N I k n (pc + 2) (o0 :: o1 :: o2 :: o3 :: o4 :: o5 :: o6 :: o7 :: o8 :: some (vR z a) :: r) st) : V x z Po N I k n pc (o0 :: o1 :: o2 :: o3 :: o4 :: o5 :: o6 :: o7 :: o8 :: o :: r) (vR z a :: st) := by
  intro H locs ls hP hS hl
  have h1 := fun ls' h' => kk H locs ls' hP hS (hl.st1 (i := 9) (v := vR z a) (nc_s 8 rfl hn) h')
  rcases Int.lt_or_le a 0 with q | q
  · rw [vR_null q] at h1 ⊢
    exact lv_astoreN hx.1 hx.2.1 hd hl.has (show 9 < r.length + 10 by omega) rfl h1
  · rw [vR_ref q] at h1 ⊢
    exact lv_astore hx.1 hx.2.1 hd hl.has (show 9 < r.length + 10 by omega) rfl h1
theorem V_iinc_9 (hx : OK x z own cc nL ret fr lo mc ms) {o0 o1 o2 o3 o4 o5 o6 o7 o8 : Option Value} {r : List (Option Value)} {a c : Int} (hn : nc2 o8) (hd : decode cc pc = .ok (.iinc 9 c, 3)) (kk : V x z Po N I k n (pc + 3) (o0 :: o1 :: o2 :: o3 :: o4 :: o5 :: o6 :: o7 :: o8 :: some (vI (a + c)) :: r) st) : V x z Po N I k n pc (o0 :: o1 :: o2 :: o3 :: o4 :: o5 :: o6 :: o7 :: o8 :: some (vI a) :: r) st := by
  intro H locs ls hP hS hl
  obtain ⟨q, hq⟩ := List.getElem?_of_mem (prs_mem.mpr (show (o0 :: o1 :: o2 :: o3 :: o4 :: o5 :: o6 :: o7 :: o8 :: some (vI a) :: r)[9]? = some (some (vI a)) from rfl))
  exact lv_iinc (v := Int32.ofInt (a + c)) hx.1 hx.2.1 hd hl.has hq (by rw [Int32.ofInt_add]) (show 9 < r.length + 10 by omega) rfl (fun ls' h' => kk H locs ls' hP hS (hl.st1 (i := 9) (v := vI (a + c)) (nc_s 8 rfl hn) h'))
theorem V_iload_10 (hx : OK x z own cc nL ret fr lo mc ms) {o0 o1 o2 o3 o4 o5 o6 o7 o8 o9 : Option Value} {r : List (Option Value)} {a : Int} (hd : decode cc pc = .ok (.iload 10, 2)) (kk : V x z Po N I k n (pc + 2) (o0 :: o1 :: o2 :: o3 :: o4 :: o5 :: o6 :: o7 :: o8 :: o9 :: some (vI a) :: r) (vI a :: st)) : V x z Po N I k n pc (o0 :: o1 :: o2 :: o3 :: o4 :: o5 :: o6 :: o7 :: o8 :: o9 :: some (vI a) :: r) st := fun H locs ls hP hS hl => lv_iload hx.1 hx.2.1 hd (hl.2.2 10 _ rfl) (kk H locs ls hP hS hl)
theorem V_istore_10 (hx : OK x z own cc nL ret fr lo mc ms) {o0 o1 o2 o3 o4 o5 o6 o7 o8 o9 : Option Value} {r : List (Option Value)} {o : Option Value} {a : Int} (hn : nc2 o9) (hd : decode cc pc = .ok (.istore 10, 2)) (kk : V x z Po N I k n (pc + 2) (o0 :: o1 :: o2 :: o3 :: o4 :: o5 :: o6 :: o7 :: o8 :: o9 :: some (vI a) :: r) st) : V x z Po N I k n pc (o0 :: o1 :: o2 :: o3 :: o4 :: o5 :: o6 :: o7 :: o8 :: o9 :: o :: r) (vI a :: st) := fun H locs ls hP hS hl => lv_istore hx.1 hx.2.1 hd hl.has (show 10 < r.length + 11 by omega) rfl (fun ls' h' => kk H locs ls' hP hS (hl.st1 (i := 10) (v := vI a) (nc_s 9 rfl hn) h'))
theorem V_lload_10 (hx : OK x z own cc nL ret fr lo mc ms) {o0 o1 o2 o3 o4 o5 o6 o7 o8 o9 : Option Value} {r : List (Option Value)} {a : Int} (hd : decode cc pc = .ok (.lload 10, 2)) (kk : V x z Po N I k n (pc + 2) (o0 :: o1 :: o2 :: o3 :: o4 :: o5 :: o6 :: o7 :: o8 :: o9 :: some (vL a) :: r) (vL a :: st)) : V x z Po N I k n pc (o0 :: o1 :: o2 :: o3 :: o4 :: o5 :: o6 :: o7 :: o8 :: o9 :: some (vL a) :: r) st := fun H locs ls hP hS hl => lv_lload hx.1 hx.2.1 hd (hl.2.2 10 _ rfl) (kk H locs ls hP hS hl)
theorem V_lstore_10 (hx : OK x z own cc nL ret fr lo mc ms) {o0 o1 o2 o3 o4 o5 o6 o7 o8 o9 : Option Value} {r : List (Option Value)} {o o' : Option Value} {a : Int} (hn : nc2 o9) (hd : decode cc pc = .ok (.lstore 10, 2)) (kk : V x z Po N I k n (pc + 2) (o0 :: o1 :: o2 :: o3 :: o4 :: o5 :: o6 :: o7 :: o8 :: o9 :: some (vL a) :: none :: r) st) : V x z Po N I k n pc (o0 :: o1 :: o2 :: o3 :: o4 :: o5 :: o6 :: o7 :: o8 :: o9 :: o :: o' :: r) (vL a :: st) := fun H locs ls hP hS hl => lv_lstore hx.1 hx.2.1 hd hl.has (show 10 + 1 < r.length + 12 by omega) rfl (fun ls' h' => kk H locs ls' hP hS (hl.st2 (i := 10) (v := vL a) (nc_s 9 rfl hn) h'))
theorem V_aload_10 (hx : OK x z own cc nL ret fr lo mc ms) {o0 o1 o2 o3 o4 o5 o6 o7 o8 o9 : Option Value} {r : List (Option Value)} {a : Int} (hd : decode cc pc = .ok (.aload 10, 2)) (kk : V x z Po N I k n (pc + 2) (o0 :: o1 :: o2 :: o3 :: o4 :: o5 :: o6 :: o7 :: o8 :: o9 :: some (vR z a) :: r) (vR z a :: st)) : V x z Po N I k n pc (o0 :: o1 :: o2 :: o3 :: o4 :: o5 :: o6 :: o7 :: o8 :: o9 :: some (vR z a) :: r) st := by
  intro H locs ls hP hS hl
  have h0 := hl.2.2 10 _ rfl
  have h1 := kk H locs ls hP hS hl
  rcases Int.lt_or_le a 0 with q | q
  · rw [vR_null q] at h0 h1
    exact lv_aloadN hx.1 hx.2.1 hd h0 h1
  · rw [vR_ref q] at h0 h1
    exact lv_aload hx.1 hx.2.1 hd h0 h1
theorem V_astore_10 (hx : OK x z own cc nL ret fr lo mc ms) {o0 o1 o2 o3 o4 o5 o6 o7 o8 o9 : Option Value} {r : List (Option Value)} {o : Option Value} {a : Int} (hn : nc2 o9) (hd : decode cc pc = .ok (.astore 10, 2)) (kk : V x z Po N I k n (pc + 2) (o0 :: o1 :: o2 :: o3 :: o4 :: o5 :: o6 :: o7 :: o8 :: o9 :: some (vR z a) :: r) st) : V x z Po N I k n pc (o0 :: o1 :: o2 :: o3 :: o4 :: o5 :: o6 :: o7 :: o8 :: o9 :: o :: r) (vR z a :: st) := by
  intro H locs ls hP hS hl
  have h1 := fun ls' h' => kk H locs ls' hP hS (hl.st1 (i := 10) (v := vR z a) (nc_s 9 rfl hn) h')
  rcases Int.lt_or_le a 0 with q | q
  · rw [vR_null q] at h1 ⊢
    exact lv_astoreN hx.1 hx.2.1 hd hl.has (show 10 < r.length + 11 by omega) rfl h1
  · rw [vR_ref q] at h1 ⊢
    exact lv_astore hx.1 hx.2.1 hd hl.has (show 10 < r.length + 11 by omega) rfl h1
theorem V_iinc_10 (hx : OK x z own cc nL ret fr lo mc ms) {o0 o1 o2 o3 o4 o5 o6 o7 o8 o9 : Option Value} {r : List (Option Value)} {a c : Int} (hn : nc2 o9) (hd : decode cc pc = .ok (.iinc 10 c, 3)) (kk : V x z Po N I k n (pc + 3) (o0 :: o1 :: o2 :: o3 :: o4 :: o5 :: o6 :: o7 :: o8 :: o9 :: some (vI (a + c)) :: r) st) : V x z Po N I k n pc (o0 :: o1 :: o2 :: o3 :: o4 :: o5 :: o6 :: o7 :: o8 :: o9 :: some (vI a) :: r) st := by
  intro H locs ls hP hS hl
  obtain ⟨q, hq⟩ := List.getElem?_of_mem (prs_mem.mpr (show (o0 :: o1 :: o2 :: o3 :: o4 :: o5 :: o6 :: o7 :: o8 :: o9 :: some (vI a) :: r)[10]? = some (some (vI a)) from rfl))
  exact lv_iinc (v := Int32.ofInt (a + c)) hx.1 hx.2.1 hd hl.has hq (by rw [Int32.ofInt_add]) (show 10 < r.length + 11 by omega) rfl (fun ls' h' => kk H locs ls' hP hS (hl.st1 (i := 10) (v := vI (a + c)) (nc_s 9 rfl hn) h'))
theorem V_iload_11 (hx : OK x z own cc nL ret fr lo mc ms) {o0 o1 o2 o3 o4 o5 o6 o7 o8 o9 o10 : Option Value} {r : List (Option Value)} {a : Int} (hd : decode cc pc = .ok (.iload 11, 2)) (kk : V x z Po N I k n (pc + 2) (o0 :: o1 :: o2 :: o3 :: o4 :: o5 :: o6 :: o7 :: o8 :: o9 :: o10 :: some (vI a) :: r) (vI a :: st)) : V x z Po N I k n pc (o0 :: o1 :: o2 :: o3 :: o4 :: o5 :: o6 :: o7 :: o8 :: o9 :: o10 :: some (vI a) :: r) st := fun H locs ls hP hS hl => lv_iload hx.1 hx.2.1 hd (hl.2.2 11 _ rfl) (kk H locs ls hP hS hl)
theorem V_istore_11 (hx : OK x z own cc nL ret fr lo mc ms) {o0 o1 o2 o3 o4 o5 o6 o7 o8 o9 o10 : Option Value} {r : List (Option Value)} {o : Option Value} {a : Int} (hn : nc2 o10) (hd : decode cc pc = .ok (.istore 11, 2)) (kk : V x z Po N I k n (pc + 2) (o0 :: o1 :: o2 :: o3 :: o4 :: o5 :: o6 :: o7 :: o8 :: o9 :: o10 :: some (vI a) :: r) st) : V x z Po N I k n pc (o0 :: o1 :: o2 :: o3 :: o4 :: o5 :: o6 :: o7 :: o8 :: o9 :: o10 :: o :: r) (vI a :: st) := fun H locs ls hP hS hl => lv_istore hx.1 hx.2.1 hd hl.has (show 11 < r.length + 12 by omega) rfl (fun ls' h' => kk H locs ls' hP hS (hl.st1 (i := 11) (v := vI a) (nc_s 10 rfl hn) h'))
theorem V_lload_11 (hx : OK x z own cc nL ret fr lo mc ms) {o0 o1 o2 o3 o4 o5 o6 o7 o8 o9 o10 : Option Value} {r : List (Option Value)} {a : Int} (hd : decode cc pc = .ok (.lload 11, 2)) (kk : V x z Po N I k n (pc + 2) (o0 :: o1 :: o2 :: o3 :: o4 :: o5 :: o6 :: o7 :: o8 :: o9 :: o10 :: some (vL a) :: r) (vL a :: st)) : V x z Po N I k n pc (o0 :: o1 :: o2 :: o3 :: o4 :: o5 :: o6 :: o7 :: o8 :: o9 :: o10 :: some (vL a) :: r) st := fun H locs ls hP hS hl => lv_lload hx.1 hx.2.1 hd (hl.2.2 11 _ rfl) (kk H locs ls hP hS hl)
theorem V_lstore_11 (hx : OK x z own cc nL ret fr lo mc ms) {o0 o1 o2 o3 o4 o5 o6 o7 o8 o9 o10 : Option Value} {r : List (Option Value)} {o o' : Option Value} {a : Int} (hn : nc2 o10) (hd : decode cc pc = .ok (.lstore 11, 2)) (kk : V x z Po N I k n (pc + 2) (o0 :: o1 :: o2 :: o3 :: o4 :: o5 :: o6 :: o7 :: o8 :: o9 :: o10 :: some (vL a) :: none :: r) st) : V x z Po N I k n pc (o0 :: o1 :: o2 :: o3 :: o4 :: o5 :: o6 :: o7 :: o8 :: o9 :: o10 :: o :: o' :: r) (vL a :: st) := fun H locs ls hP hS hl => lv_lstore hx.1 hx.2.1 hd hl.has (show 11 + 1 < r.length + 13 by omega) rfl (fun ls' h' => kk H locs ls' hP hS (hl.st2 (i := 11) (v := vL a) (nc_s 10 rfl hn) h'))
theorem V_aload_11 (hx : OK x z own cc nL ret fr lo mc ms) {o0 o1 o2 o3 o4 o5 o6 o7 o8 o9 o10 : Option Value} {r : List (Option Value)} {a : Int} (hd : decode cc pc = .ok (.aload 11, 2)) (kk : V x z Po N I k n (pc + 2) (o0 :: o1 :: o2 :: o3 :: o4 :: o5 :: o6 :: o7 :: o8 :: o9 :: o10 :: some (vR z a) :: r) (vR z a :: st)) : V x z Po N I k n pc (o0 :: o1 :: o2 :: o3 :: o4 :: o5 :: o6 :: o7 :: o8 :: o9 :: o10 :: some (vR z a) :: r) st := by
  intro H locs ls hP hS hl
  have h0 := hl.2.2 11 _ rfl
  have h1 := kk H locs ls hP hS hl
  rcases Int.lt_or_le a 0 with q | q
  · rw [vR_null q] at h0 h1
    exact lv_aloadN hx.1 hx.2.1 hd h0 h1
  · rw [vR_ref q] at h0 h1
    exact lv_aload hx.1 hx.2.1 hd h0 h1
theorem V_astore_11 (hx : OK x z own cc nL ret fr lo mc ms) {o0 o1 o2 o3 o4 o5 o6 o7 o8 o9 o10 : Option Value} {r : List (Option Value)} {o : Option Value} {a : Int} (hn : nc2 o10) (hd : decode cc pc = .ok (.astore 11, 2)) (kk : V x z Po N I k n (pc + 2) (o0 :: o1 :: o2 :: o3 :: o4 :: o5 :: o6 :: o7 :: o8 :: o9 :: o10 :: some (vR z a) :: r) st) : V x z Po N I k n pc (o0 :: o1 :: o2 :: o3 :: o4 :: o5 :: o6 :: o7 :: o8 :: o9 :: o10 :: o :: r) (vR z a :: st) := by
  intro H locs ls hP hS hl
  have h1 := fun ls' h' => kk H locs ls' hP hS (hl.st1 (i := 11) (v := vR z a) (nc_s 10 rfl hn) h')
  rcases Int.lt_or_le a 0 with q | q
  · rw [vR_null q] at h1 ⊢
    exact lv_astoreN hx.1 hx.2.1 hd hl.has (show 11 < r.length + 12 by omega) rfl h1
  · rw [vR_ref q] at h1 ⊢
    exact lv_astore hx.1 hx.2.1 hd hl.has (show 11 < r.length + 12 by omega) rfl h1
theorem V_iinc_11 (hx : OK x z own cc nL ret fr lo mc ms) {o0 o1 o2 o3 o4 o5 o6 o7 o8 o9 o10 : Option Value} {r : List (Option Value)} {a c : Int} (hn : nc2 o10) (hd : decode cc pc = .ok (.iinc 11 c, 3)) (kk : V x z Po N I k n (pc + 3) (o0 :: o1 :: o2 :: o3 :: o4 :: o5 :: o6 :: o7 :: o8 :: o9 :: o10 :: some (vI (a + c)) :: r) st) : V x z Po N I k n pc (o0 :: o1 :: o2 :: o3 :: o4 :: o5 :: o6 :: o7 :: o8 :: o9 :: o10 :: some (vI a) :: r) st := by
  intro H locs ls hP hS hl
  obtain ⟨q, hq⟩ := List.getElem?_of_mem (prs_mem.mpr (show (o0 :: o1 :: o2 :: o3 :: o4 :: o5 :: o6 :: o7 :: o8 :: o9 :: o10 :: some (vI a) :: r)[11]? = some (some (vI a)) from rfl))
  exact lv_iinc (v := Int32.ofInt (a + c)) hx.1 hx.2.1 hd hl.has hq (by rw [Int32.ofInt_add]) (show 11 < r.length + 12 by omega) rfl (fun ls' h' => kk H locs ls' hP hS (hl.st1 (i := 11) (v := vI (a + c)) (nc_s 10 rfl hn) h'))
theorem V_iload_12 (hx : OK x z own cc nL ret fr lo mc ms) {o0 o1 o2 o3 o4 o5 o6 o7 o8 o9 o10 o11 : Option Value} {r : List (Option Value)} {a : Int} (hd : decode cc pc = .ok (.iload 12, 2)) (kk : V x z Po N I k n (pc + 2) (o0 :: o1 :: o2 :: o3 :: o4 :: o5 :: o6 :: o7 :: o8 :: o9 :: o10 :: o11 :: some (vI a) :: r) (vI a :: st)) : V x z Po N I k n pc (o0 :: o1 :: o2 :: o3 :: o4 :: o5 :: o6 :: o7 :: o8 :: o9 :: o10 :: o11 :: some (vI a) :: r) st := fun H locs ls hP hS hl => lv_iload hx.1 hx.2.1 hd (hl.2.2 12 _ rfl) (kk H locs ls hP hS hl)
theorem V_istore_12 (hx : OK x z own cc nL ret fr lo mc ms) {o0 o1 o2 o3 o4 o5 o6 o7 o8 o9 o10 o11 : Option Value} {r : List (Option Value)} {o : Option Value} {a : Int} (hn : nc2 o11) (hd : decode cc pc = .ok (.istore 12, 2)) (kk : V x z Po N I k n (pc + 2) (o0 :: o1 :: o2 :: o3 :: o4 :: o5 :: o6 :: o7 :: o8 :: o9 :: o10 :: o11 :: some (vI a) :: r) st) : V x z Po N I k n pc (o0 :: o1 :: o2 :: o3 :: o4 :: o5 :: o6 :: o7 :: o8 :: o9 :: o10 :: o11 :: o :: r) (vI a :: st) := fun H locs ls hP hS hl => lv_istore hx.1 hx.2.1 hd hl.has (show 12 < r.length + 13 by omega) rfl (fun ls' h' => kk H locs ls' hP hS (hl.st1 (i := 12) (v := vI a) (nc_s 11 rfl hn) h'))
theorem V_lload_12 (hx : OK x z own cc nL ret fr lo mc ms) {o0 o1 o2 o3 o4 o5 o6 o7 o8 o9 o10 o11 : Option Value} {r : List (Option Value)} {a : Int} (hd : decode cc pc = .ok (.lload 12, 2)) (kk : V x z Po N I k n (pc + 2) (o0 :: o1 :: o2 :: o3 :: o4 :: o5 :: o6 :: o7 :: o8 :: o9 :: o10 :: o11 :: some (vL a) :: r) (vL a :: st)) : V x z Po N I k n pc (o0 :: o1 :: o2 :: o3 :: o4 :: o5 :: o6 :: o7 :: o8 :: o9 :: o10 :: o11 :: some (vL a) :: r) st := fun H locs ls hP hS hl => lv_lload hx.1 hx.2.1 hd (hl.2.2 12 _ rfl) (kk H locs ls hP hS hl)
theorem V_lstore_12 (hx : OK x z own cc nL ret fr lo mc ms) {o0 o1 o2 o3 o4 o5 o6 o7 o8 o9 o10 o11 : Option Value} {r : List (Option Value)} {o o' : Option Value} {a : Int} (hn : nc2 o11) (hd : decode cc pc = .ok (.lstore 12, 2)) (kk : V x z Po N I k n (pc + 2) (o0 :: o1 :: o2 :: o3 :: o4 :: o5 :: o6 :: o7 :: o8 :: o9 :: o10 :: o11 :: some (vL a) :: none :: r) st) : V x z Po N I k n pc (o0 :: o1 :: o2 :: o3 :: o4 :: o5 :: o6 :: o7 :: o8 :: o9 :: o10 :: o11 :: o :: o' :: r) (vL a :: st) := fun H locs ls hP hS hl => lv_lstore hx.1 hx.2.1 hd hl.has (show 12 + 1 < r.length + 14 by omega) rfl (fun ls' h' => kk H locs ls' hP hS (hl.st2 (i := 12) (v := vL a) (nc_s 11 rfl hn) h'))
theorem V_aload_12 (hx : OK x z own cc nL ret fr lo mc ms) {o0 o1 o2 o3 o4 o5 o6 o7 o8 o9 o10 o11 : Option Value} {r : List (Option Value)} {a : Int} (hd : decode cc pc = .ok (.aload 12, 2)) (kk : V x z Po N I k n (pc + 2) (o0 :: o1 :: o2 :: o3 :: o4 :: o5 :: o6 :: o7 :: o8 :: o9 :: o10 :: o11 :: some (vR z a) :: r) (vR z a :: st)) : V x z Po N I k n pc (o0 :: o1 :: o2 :: o3 :: o4 :: o5 :: o6 :: o7 :: o8 :: o9 :: o10 :: o11 :: some (vR z a) :: r) st := by
  intro H locs ls hP hS hl
  have h0 := hl.2.2 12 _ rfl
  have h1 := kk H locs ls hP hS hl
  rcases Int.lt_or_le a 0 with q | q
  · rw [vR_null q] at h0 h1
    exact lv_aloadN hx.1 hx.2.1 hd h0 h1
  · rw [vR_ref q] at h0 h1
    exact lv_aload hx.1 hx.2.1 hd h0 h1
theorem V_astore_12 (hx : OK x z own cc nL ret fr lo mc ms) {o0 o1 o2 o3 o4 o5 o6 o7 o8 o9 o10 o11 : Option Value} {r : List (Option Value)} {o : Option Value} {a : Int} (hn : nc2 o11) (hd : decode cc pc = .ok (.astore 12, 2)) (kk : V x z Po N I k n (pc + 2) (o0 :: o1 :: o2 :: o3 :: o4 :: o5 :: o6 :: o7 :: o8 :: o9 :: o10 :: o11 :: some (vR z a) :: r) st) : V x z Po N I k n pc (o0 :: o1 :: o2 :: o3 :: o4 :: o5 :: o6 :: o7 :: o8 :: o9 :: o10 :: o11 :: o :: r) (vR z a :: st) := by
  intro H locs ls hP hS hl
  have h1 := fun ls' h' => kk H locs ls' hP hS (hl.st1 (i := 12) (v := vR z a) (nc_s 11 rfl hn) h')
  rcases Int.lt_or_le a 0 with q | q
  · rw [vR_null q] at h1 ⊢
    exact lv_astoreN hx.1 hx.2.1 hd hl.has (show 12 < r.length + 13 by omega) rfl h1
  · rw [vR_ref q] at h1 ⊢
    exact lv_astore hx.1 hx.2.1 hd hl.has (show 12 < r.length + 13 by omega) rfl h1
theorem V_iinc_12 (hx : OK x z own cc nL ret fr lo mc ms) {o0 o1 o2 o3 o4 o5 o6 o7 o8 o9 o10 o11 : Option Value} {r : List (Option Value)} {a c : Int} (hn : nc2 o11) (hd : decode cc pc = .ok (.iinc 12 c, 3)) (kk : V x z Po N I k n (pc + 3) (o0 :: o1 :: o2 :: o3 :: o4 :: o5 :: o6 :: o7 :: o8 :: o9 :: o10 :: o11 :: some (vI (a + c)) :: r) st) : V x z Po N I k n pc (o0 :: o1 :: o2 :: o3 :: o4 :: o5 :: o6 :: o7 :: o8 :: o9 :: o10 :: o11 :: some (vI a) :: r) st := by
  intro H locs ls hP hS hl
  obtain ⟨q, hq⟩ := List.getElem?_of_mem (prs_mem.mpr (show (o0 :: o1 :: o2 :: o3 :: o4 :: o5 :: o6 :: o7 :: o8 :: o9 :: o10 :: o11 :: some (vI a) :: r)[12]? = some (some (vI a)) from rfl))
  exact lv_iinc (v := Int32.ofInt (a + c)) hx.1 hx.2.1 hd hl.has hq (by rw [Int32.ofInt_add]) (show 12 < r.length + 13 by omega) rfl (fun ls' h' => kk H locs ls' hP hS (hl.st1 (i := 12) (v := vI (a + c)) (nc_s 11 rfl hn) h'))
theorem V_iload_13 (hx : OK x z own cc nL ret fr lo mc ms) {o0 o1 o2 o3 o4 o5 o6 o7 o8 o9 o10 o11 o12 : Option Value} {r : List (Option Value)} {a : Int} (hd : decode cc pc = .ok (.iload 13, 2)) (kk : V x z Po N I k n (pc + 2) (o0 :: o1 :: o2 :: o3 :: o4 :: o5 :: o6 :: o7 :: o8 :: o9 :: o10 :: o11 :: o12 :: some (vI a) :: r) (vI a :: st)) : V x z Po N I k n pc (o0 :: o1 :: o2 :: o3 :: o4 :: o5 :: o6 :: o7 :: o8 :: o9 :: o10 :: o11 :: o12 :: some (vI a) :: r) st := fun H locs ls hP hS hl => lv_iload hx.1 hx.2.1 hd (hl.2.2 13 _ rfl) (kk H locs ls hP hS hl)
theorem V_istore_13 (hx : OK x z own cc nL ret fr lo mc ms) {o0 o1 o2 o3 o4 o5 o6 o7 o8 o9 o10 o11 o12 : Option Value} {r : List (Option Value)} {o : Option Value} {a : Int} (hn : nc2 o12) (hd : decode cc pc = .ok (.istore 13, 2)) (kk : V x z Po N I k n (pc + 2) (o0 :: o1 :: o2 :: o3 :: o4 :: o5 :: o6 :: o7 :: o8 :: o9 :: o10 :: o11 :: o12 :: some (vI a) :: r) st) : V x z Po N I k n pc (o0 :: o1 :: o2 :: o3 :: o4 :: o5 :: o6 :: o7 :: o8 :: o9 :: o10 :: o11 :: o12 :: o :: r) (vI a :: st) := fun H locs ls hP hS hl => lv_istore hx.1 hx.2.1 hd hl.has (show 13 < r.length + 14 by omega) rfl (fun ls' h' => kk H locs ls' hP hS (hl.st1 (i := 13) (v := vI a) (nc_s 12 rfl hn) h'))
theorem V_lload_13 (hx : OK x z own cc nL ret fr lo mc ms) {o0 o1 o2 o3 o4 o5 o6 o7 o8 o9 o10 o11 o12 : Option Value} {r : List (Option Value)} {a : Int} (hd : decode cc pc = .ok (.lload 13, 2)) (kk : V x z Po N I k n (pc + 2) (o0 :: o1 :: o2 :: o3 :: o4 :: o5 :: o6 :: o7 :: o8 :: o9 :: o10 :: o11 :: o12 :: some (vL a) :: r) (vL a :: st)) : V x z Po N I k n pc (o0 :: o1 :: o2 :: o3 :: o4 :: o5 :: o6 :: o7 :: o8 :: o9 :: o10 :: o11 :: o12 :: some (vL a) :: r) st := fun H locs ls hP hS hl => lv_lload hx.1 hx.2.1 hd (hl.2.2 13 _ rfl) (kk H locs ls hP hS hl)
theorem V_lstore_13 (hx : OK x z own cc nL ret fr lo mc ms) {o0 o1 o2 o3 o4 o5 o6 o7 o8 o9 o10 o11 o12 : Option Value} {r : List (Option Value)} {o o' : Option Value} {a : Int} (hn : nc2 o12) (hd : decode cc pc = .ok (.lstore 13, 2)) (kk : V x z Po N I k n (pc + 2) (o0 :: o1 :: o2 :: o3 :: o4 :: o5 :: o6 :: o7 :: o8 :: o9 :: o10 :: o11 :: o12 :: some (vL a) :: none :: r) st) : V x z Po N I k n pc (o0 :: o1 :: o2 :: o3 :: o4 :: o5 :: o6 :: o7 :: o8 :: o9 :: o10 :: o11 :: o12 :: o :: o' :: r) (vL a :: st) := fun H locs ls hP hS hl => lv_lstore hx.1 hx.2.1 hd hl.has (show 13 + 1 < r.length + 15 by omega) rfl (fun ls' h' => kk H locs ls' hP hS (hl.st2 (i := 13) (v := vL a) (nc_s 12 rfl hn) h'))
theorem V_aload_13 (hx : OK x z own cc nL ret fr lo mc ms) {o0 o1 o2 o3 o4 o5 o6 o7 o8 o9 o10 o11 o12 : Option Value} {r : List (Option Value)} {a : Int} (hd : decode cc pc = .ok (.aload 13, 2)) (kk : V x z Po N I k n (pc + 2) (o0 :: o1 :: o2 :: o3 :: o4 :: o5 :: o6 :: o7 :: o8 :: o9 :: o10 :: o11 :: o12 :: some (vR z a) :: r) (vR z a :: st)) : V x z Po N I k n pc (o0 :: o1 :: o2 :: o3 :: o4 :: o5 :: o6 :: o7 :: o8 :: o9 :: o10 :: o11 :: o12 :: some (vR z a) :: r) st := by
  intro H locs ls hP hS hl
  have h0 := hl.2.2 13 _ rfl
  have h1 := kk H locs ls hP hS hl
  rcases Int.lt_or_le a 0 with q | q
  · rw [vR_null q] at h0 h1
    exact lv_aloadN hx.1 hx.2.1 hd h0 h1
  · rw [vR_ref q] at h0 h1
    exact lv_aload hx.1 hx.2.1 hd h0 h1
theorem V_astore_13 (hx : OK x z own cc nL ret fr lo mc ms) {o0 o1 o2 o3 o4 o5 o6 o7 o8 o9 o10 o11 o12 : Option Value} {r : List (Option Value)} {o : Option Value} {a : Int} (hn : nc2 o12) (hd : decode cc pc = .ok (.astore 13, 2)) (kk : V x z Po N I k n (pc + 2) (o0 :: o1 :: o2 :: o3 :: o4 :: o5 :: o6 :: o7 :: o8 :: o9 :: o10 :: o11 :: o12 :: some (vR z a) :: r) st) : V x z Po N I k n pc (o0 :: o1 :: o2 :: o3 :: o4 :: o5 :: o6 :: o7 :: o8 :: o9 :: o10 :: o11 :: o12 :: o :: r) (vR z a :: st) := by
  intro H locs ls hP hS hl
  have h1 := fun ls' h' => kk H locs ls' hP hS (hl.st1 (i := 13) (v := vR z a) (nc_s 12 rfl hn) h')
  rcases Int.lt_or_le a 0 with q | q
  · rw [vR_null q] at h1 ⊢
    exact lv_astoreN hx.1 hx.2.1 hd hl.has (show 13 < r.length + 14 by omega) rfl h1
  · rw [vR_ref q] at h1 ⊢
    exact lv_astore hx.1 hx.2.1 hd hl.has (show 13 < r.length + 14 by omega) rfl h1
theorem V_iinc_13 (hx : OK x z own cc nL ret fr lo mc ms) {o0 o1 o2 o3 o4 o5 o6 o7 o8 o9 o10 o11 o12 : Option Value} {r : List (Option Value)} {a c : Int} (hn : nc2 o12) (hd : decode cc pc = .ok (.iinc 13 c, 3)) (kk : V x z Po N I k n (pc + 3) (o0 :: o1 :: o2 :: o3 :: o4 :: o5 :: o6 :: o7 :: o8 :: o9 :: o10 :: o11 :: o12 :: some (vI (a + c)) :: r) st) : V x z Po N I k n pc (o0 :: o1 :: o2 :: o3 :: o4 :: o5 :: o6 :: o7 :: o8 :: o9 :: o10 :: o11 :: o12 :: some (vI a) :: r) st := by
  intro H locs ls hP hS hl
  obtain ⟨q, hq⟩ := List.getElem?_of_mem (prs_mem.mpr (show (o0 :: o1 :: o2 :: o3 :: o4 :: o5 :: o6 :: o7 :: o8 :: o9 :: o10 :: o11 :: o12 :: some (vI a) :: r)[13]? = some (some (vI a)) from rfl))
  exact lv_iinc (v := Int32.ofInt (a + c)) hx.1 hx.2.1 hd hl.has hq (by rw [Int32.ofInt_add]) (show 13 < r.length + 14 by omega) rfl (fun ls' h' => kk H locs ls' hP hS (hl.st1 (i := 13) (v := vI (a + c)) (nc_s 12 rfl hn) h'))
theorem V_iadd (hx : OK x z own cc nL ret fr lo mc ms) {a b : Int} (hd : decode cc pc = .ok (.iadd, 1)) (kk : V x z Po N I k n (pc + 1) L (vI (a + b) :: st)) : V x z Po N I k n pc L (vI b :: vI a :: st) := fun H locs ls hP hS hl => lv_iadd hx.1 hx.2.1 hd (vI_add a b ▸ kk H locs ls hP hS hl)
theorem V_isub (hx : OK x z own cc nL ret fr lo mc ms) {a b : Int} (hd : decode cc pc = .ok (.isub, 1)) (kk : V x z Po N I k n (pc + 1) L (vI (a - b) :: st)) : V x z Po N I k n pc L (vI b :: vI a :: st) := fun H locs ls hP hS hl => lv_isub hx.1 hx.2.1 hd (vI_sub a b ▸ kk H locs ls hP hS hl)
theorem V_imul (hx : OK x z own cc nL ret fr lo mc ms) {a b : Int} (hd : decode cc pc = .ok (.imul, 1)) (kk : V x z Po N I k n (pc + 1) L (vI (a * b) :: st)) : V x z Po N I k n pc L (vI b :: vI a :: st) := fun H locs ls hP hS hl => lv_imul hx.1 hx.2.1 hd (vI_mul a b ▸ kk H locs ls hP hS hl)
theorem V_ladd (hx : OK x z own cc nL ret fr lo mc ms) {a b : Int} (hd : decode cc pc = .ok (.ladd, 1)) (kk : V x z Po N I k n (pc + 1) L (vL (a + b) :: st)) : V x z Po N I k n pc L (vL b :: vL a :: st) := fun H locs ls hP hS hl => lv_ladd hx.1 hx.2.1 hd (vL_add a b ▸ kk H locs ls hP hS hl)
theorem V_lsub (hx : OK x z own cc nL ret fr lo mc ms) {a b : Int} (hd : decode cc pc = .ok (.lsub, 1)) (kk : V x z Po N I k n (pc + 1) L (vL (a - b) :: st)) : V x z Po N I k n pc L (vL b :: vL a :: st) := fun H locs ls hP hS hl => lv_lsub hx.1 hx.2.1 hd (vL_sub a b ▸ kk H locs ls hP hS hl)
theorem V_lmul (hx : OK x z own cc nL ret fr lo mc ms) {a b : Int} (hd : decode cc pc = .ok (.lmul, 1)) (kk : V x z Po N I k n (pc + 1) L (vL (a * b) :: st)) : V x z Po N I k n pc L (vL b :: vL a :: st) := fun H locs ls hP hS hl => lv_lmul hx.1 hx.2.1 hd (vL_mul a b ▸ kk H locs ls hP hS hl)
theorem V_ineg (hx : OK x z own cc nL ret fr lo mc ms) {a : Int} (hd : decode cc pc = .ok (.ineg, 1)) (kk : V x z Po N I k n (pc + 1) L (vI (-a) :: st)) : V x z Po N I k n pc L (vI a :: st) := fun H locs ls hP hS hl => lv_ineg hx.1 hx.2.1 hd (vI_neg a ▸ kk H locs ls hP hS hl)
theorem V_idiv (hx : OK x z own cc nL ret fr lo mc ms) {a b : Int} (hd : decode cc pc = .ok (.idiv, 1)) (ha : 0 ≤ a ∧ a ≤ 2147483647) (hb : 1 ≤ b ∧ b ≤ 2147483647) (kk : V x z Po N I k n (pc + 1) L (vI (a / b) :: st)) : V x z Po N I k n pc L (vI b :: vI a :: st) := fun H locs ls hP hS hl => lv_idiv hx.1 hx.2.1 hd (oI_ne0 (by omega) (by omega)) (by rw [oI_div ha hb]; exact kk H locs ls hP hS hl)
theorem V_irem (hx : OK x z own cc nL ret fr lo mc ms) {a b : Int} (hd : decode cc pc = .ok (.irem, 1)) (ha : 0 ≤ a ∧ a ≤ 2147483647) (hb : 1 ≤ b ∧ b ≤ 2147483647) (kk : V x z Po N I k n (pc + 1) L (vI (a % b) :: st)) : V x z Po N I k n pc L (vI b :: vI a :: st) := fun H locs ls hP hS hl => lv_irem hx.1 hx.2.1 hd (oI_ne0 (by omega) (by omega)) (by rw [oI_rem ha hb]; exact kk H locs ls hP hS hl)
theorem V_iand (hx : OK x z own cc nL ret fr lo mc ms) {a b : Int} (c : Int) (hd : decode cc pc = .ok (.iand, 1)) (he : Int32.ofInt a &&& Int32.ofInt b = Int32.ofInt c) (kk : V x z Po N I k n (pc + 1) L (vI c :: st)) : V x z Po N I k n pc L (vI b :: vI a :: st) := fun H locs ls hP hS hl => lv_iand hx.1 hx.2.1 hd (by rw [he]; exact kk H locs ls hP hS hl)
theorem V_ior (hx : OK x z own cc nL ret fr lo mc ms) {a b : Int} (c : Int) (hd : decode cc pc = .ok (.ior, 1)) (he : Int32.ofInt a ||| Int32.ofInt b = Int32.ofInt c) (kk : V x z Po N I k n (pc + 1) L (vI c :: st)) : V x z Po N I k n pc L (vI b :: vI a :: st) := fun H locs ls hP hS hl => lv_ior hx.1 hx.2.1 hd (by rw [he]; exact kk H locs ls hP hS hl)
theorem V_ixor (hx : OK x z own cc nL ret fr lo mc ms) {a b : Int} (c : Int) (hd : decode cc pc = .ok (.ixor, 1)) (he : Int32.ofInt a ^^^ Int32.ofInt b = Int32.ofInt c) (kk : V x z Po N I k n (pc + 1) L (vI c :: st)) : V x z Po N I k n pc L (vI b :: vI a :: st) := fun H locs ls hP hS hl => lv_ixor hx.1 hx.2.1 hd (by rw [he]; exact kk H locs ls hP hS hl)
theorem V_ishl (hx : OK x z own cc nL ret fr lo mc ms) {a b : Int} (c : Int) (hd : decode cc pc = .ok (.ishl, 1)) (he : Int32.ofInt a <<< (Int32.ofInt b &&& 31) = Int32.ofInt c) (kk : V x z Po N I k n (pc + 1) L (vI c :: st)) : V x z Po N I k n pc L (vI b :: vI a :: st) := fun H locs ls hP hS hl => lv_ishl hx.1 hx.2.1 hd (by rw [he]; exact kk H locs ls hP hS hl)
theorem V_ishr (hx : OK x z own cc nL ret fr lo mc ms) {a b : Int} (c : Int) (hd : decode cc pc = .ok (.ishr, 1)) (he : Int32.ofInt a >>> (Int32.ofInt b &&& 31) = Int32.ofInt c) (kk : V x z Po N I k n (pc + 1) L (vI c :: st)) : V x z Po N I k n pc L (vI b :: vI a :: st) := fun H locs ls hP hS hl => lv_ishr hx.1 hx.2.1 hd (by rw [he]; exact kk H locs ls hP hS hl)
theorem V_iushr (hx : OK x z own cc nL ret fr lo mc ms) {a b : Int} (c : Int) (hd : decode cc pc = .ok (.iushr, 1)) (he : ((Int32.ofInt a).toUInt32 >>> ((Int32.ofInt b).toUInt32 &&& Int32.toUInt32 31)).toInt32 = Int32.ofInt c) (kk : V x z Po N I k n (pc + 1) L (vI c :: st)) : V x z Po N I k n pc L (vI b :: vI a :: st) := fun H locs ls hP hS hl => lv_iushr hx.1 hx.2.1 hd he (kk H locs ls hP hS hl)
theorem V_land (hx : OK x z own cc nL ret fr lo mc ms) {a b : Int} (c : Int) (hd : decode cc pc = .ok (.land, 1)) (he : Int64.ofInt a &&& Int64.ofInt b = Int64.ofInt c) (kk : V x z Po N I k n (pc + 1) L (vL c :: st)) : V x z Po N I k n pc L (vL b :: vL a :: st) := fun H locs ls hP hS hl => lv_land hx.1 hx.2.1 hd (by rw [he]; exact kk H locs ls hP hS hl)
theorem V_lor (hx : OK x z own cc nL ret fr lo mc ms) {a b : Int} (c : Int) (hd : decode cc pc = .ok (.lor, 1)) (he : Int64.ofInt a ||| Int64.ofInt b = Int64.ofInt c) (kk : V x z Po N I k n (pc + 1) L (vL c :: st)) : V x z Po N I k n pc L (vL b :: vL a :: st) := fun H locs ls hP hS hl => lv_lor hx.1 hx.2.1 hd (by rw [he]; exact kk H locs ls hP hS hl)
theorem V_lshl (hx : OK x z own cc nL ret fr lo mc ms) {a b : Int} (c : Int) (hd : decode cc pc = .ok (.lshl, 1)) (he : Int64.ofInt a <<< ((Int32.ofInt b).toInt64 &&& 63) = Int64.ofInt c) (kk : V x z Po N I k n (pc + 1) L (vL c :: st)) : V x z Po N I k n pc L (vI b :: vL a :: st) := fun H locs ls hP hS hl => lv_lshl hx.1 hx.2.1 hd he (kk H locs ls hP hS hl)
theorem V_lshr (hx : OK x z own cc nL ret fr lo mc ms) {a b : Int} (c : Int) (hd : decode cc pc = .ok (.lshr, 1)) (he : Int64.ofInt a >>> ((Int32.ofInt b).toInt64 &&& 63) = Int64.ofInt c) (kk : V x z Po N I k n (pc + 1) L (vL c :: st)) : V x z Po N I k n pc L (vI b :: vL a :: st) := fun H locs ls hP hS hl => lv_lshr hx.1 hx.2.1 hd he (kk H locs ls hP hS hl)
theorem V_lushr (hx : OK x z own cc nL ret fr lo mc ms) {a b : Int} (c : Int) (hd : decode cc pc = .ok (.lushr, 1)) (he : ((Int64.ofInt a).toUInt64 >>> ((Int32.ofInt b).toInt64.toUInt64 &&& Int64.toUInt64 63)).toInt64 = Int64.ofInt c) (kk : V x z Po N I k n (pc + 1) L (vL c :: st)) : V x z Po N I k n pc L (vI b :: vL a :: st) := fun H locs ls hP hS hl => lv_lushr hx.1 hx.2.1 hd he (kk H locs ls hP hS hl)
theorem V_ldiv (hx : OK x z own cc nL ret fr lo mc ms) {a b : Int} (c : Int) (hd : decode cc pc = .ok (.ldiv, 1)) (hne : ¬ Int64.ofInt b = 0) (he : Int64.ofInt a / Int64.ofInt b = Int64.ofInt c) (kk : V x z Po N I k n (pc + 1) L (vL c :: st)) : V x z Po N I k n pc L (vL b :: vL a :: st) := fun H locs ls hP hS hl => lv_ldiv hx.1 hx.2.1 hd hne (by rw [he]; exact kk H locs ls hP hS hl)
theorem V_i2l (hx : OK x z own cc nL ret fr lo mc ms) {a : Int} (hd : decode cc pc = .ok (.i2l, 1)) (ha : -2147483648 ≤ a ∧ a ≤ 2147483647) (kk : V x z Po N I k n (pc + 1) L (vL a :: st)) : V x z Po N I k n pc L (vI a :: st) := fun H locs ls hP hS hl => lv_i2l hx.1 hx.2.1 hd (oI_i2l ha) (kk H locs ls hP hS hl)
theorem V_l2i (hx : OK x z own cc nL ret fr lo mc ms) {a : Int} (hd : decode cc pc = .ok (.l2i, 1)) (kk : V x z Po N I k n (pc + 1) L (vI a :: st)) : V x z Po N I k n pc L (vL a :: st) := fun H locs ls hP hS hl => lv_l2i hx.1 hx.2.1 hd (by first | exact Int64.toInt32_ofInt a | simp) (kk H locs ls hP hS hl)
theorem V_i2b (hx : OK x z own cc nL ret fr lo mc ms) {a : Int} (c : Int) (hd : decode cc pc = .ok (.i2b, 1)) (he : (Int32.ofInt a).toInt8.toInt32 = Int32.ofInt c) (kk : V x z Po N I k n (pc + 1) L (vI c :: st)) : V x z Po N I k n pc L (vI a :: st) := fun H locs ls hP hS hl => lv_i2b hx.1 hx.2.1 hd he (kk H locs ls hP hS hl)
theorem V_i2s (hx : OK x z own cc nL ret fr lo mc ms) {a : Int} (c : Int) (hd : decode cc pc = .ok (.i2s, 1)) (he : (Int32.ofInt a).toInt16.toInt32 = Int32.ofInt c) (kk : V x z Po N I k n (pc + 1) L (vI c :: st)) : V x z Po N I k n pc L (vI a :: st) := fun H locs ls hP hS hl => lv_i2s hx.1 hx.2.1 hd he (kk H locs ls hP hS hl)
theorem V_i2c (hx : OK x z own cc nL ret fr lo mc ms) {a : Int} (c : Int) (hd : decode cc pc = .ok (.i2c, 1)) (he : ((Int32.ofInt a).toUInt32 % 65536).toInt32 = Int32.ofInt c) (kk : V x z Po N I k n (pc + 1) L (vI c :: st)) : V x z Po N I k n pc L (vI a :: st) := fun H locs ls hP hS hl => lv_i2c hx.1 hx.2.1 hd he (kk H locs ls hP hS hl)
theorem V_dupI (hx : OK x z own cc nL ret fr lo mc ms) {a : Int} (hd : decode cc pc = .ok (.dup, 1)) (kk : V x z Po N I k n (pc + 1) L (vI a :: vI a :: st)) : V x z Po N I k n pc L (vI a :: st) := fun H locs ls hP hS hl => lv_dup hx.1 hx.2.1 hd rfl (kk H locs ls hP hS hl)
theorem V_dupR (hx : OK x z own cc nL ret fr lo mc ms) {a : Int} (hd : decode cc pc = .ok (.dup, 1)) (kk : V x z Po N I k n (pc + 1) L (vR z a :: vR z a :: st)) : V x z Po N I k n pc L (vR z a :: st) := fun H locs ls hP hS hl => lv_dup hx.1 hx.2.1 hd (vR_cat z a) (kk H locs ls hP hS hl)
theorem V_dup2 (hx : OK x z own cc nL ret fr lo mc ms) {a b : Int} (hd : decode cc pc = .ok (.dup2, 1)) (kk : V x z Po N I k n (pc + 1) L (vI b :: vR z a :: vI b :: vR z a :: st)) : V x z Po N I k n pc L (vI b :: vR z a :: st) := fun H locs ls hP hS hl => lv_dup2_11 hx.1 hx.2.1 hd rfl (vR_cat z a) (kk H locs ls hP hS hl)
theorem V_popI (hx : OK x z own cc nL ret fr lo mc ms) {a : Int} (hd : decode cc pc = .ok (.pop, 1)) (kk : V x z Po N I k n (pc + 1) L st) : V x z Po N I k n pc L (vI a :: st) := fun H locs ls hP hS hl => lv_pop hx.1 hx.2.1 hd rfl (kk H locs ls hP hS hl)
theorem V_icmp_eq (hx : OK x z own cc nL ret fr lo mc ms) {a b : Int} {off : Int} {tgt : Nat} (hd : decode cc pc = .ok (.if_icmp .eq off, 3)) (ht : (pc : Int) + off = (tgt : Int)) (ha : -2147483648 ≤ a ∧ a ≤ 2147483647) (hb : -2147483648 ≤ b ∧ b ≤ 2147483647) (kt : a = b → V x z Po N I k n tgt L st) (kf : a ≠ b → V x z Po N I k n (pc + 3) L st) : V x z Po N I k n pc L (vI b :: vI a :: st) := fun H locs ls hP hS hl => lv_icmp_eq hx.1 hx.2.1 hd ht (fun q => kt ((oI_eq ha hb).mp q) H locs ls hP hS hl) (fun q => kf (fun e => q ((oI_eq ha hb).mpr e)) H locs ls hP hS hl)
theorem V_if_eq (hx : OK x z own cc nL ret fr lo mc ms) {a : Int} {off : Int} {tgt : Nat} (hd : decode cc pc = .ok (.ifCond .eq off, 3)) (ht : (pc : Int) + off = (tgt : Int)) (ha : -2147483648 ≤ a ∧ a ≤ 2147483647) (kt : a = 0 → V x z Po N I k n tgt L st) (kf : a ≠ 0 → V x z Po N I k n (pc + 3) L st) : V x z Po N I k n pc L (vI a :: st) := fun H locs ls hP hS hl => lv_if_eq hx.1 hx.2.1 hd ht (fun q => kt ((oI_eq ha (b := 0) (by omega)).mp q) H locs ls hP hS hl) (fun q => kf (fun e => q ((oI_eq ha (b := 0) (by omega)).mpr e)) H locs ls hP hS hl)
theorem V_icmp_ne (hx : OK x z own cc nL ret fr lo mc ms) {a b : Int} {off : Int} {tgt : Nat} (hd : decode cc pc = .ok (.if_icmp .ne off, 3)) (ht : (pc : Int) + off = (tgt : Int)) (ha : -2147483648 ≤ a ∧ a ≤ 2147483647) (hb : -2147483648 ≤ b ∧ b ≤ 2147483647) (kt : a ≠ b → V x z Po N I k n tgt L st) (kf : a = b → V x z Po N I k n (pc + 3) L st) : V x z Po N I k n pc L (vI b :: vI a :: st) := fun H locs ls hP hS hl => lv_icmp_ne hx.1 hx.2.1 hd ht (fun q => kt (fun e => q ((oI_eq ha hb).mpr e)) H locs ls hP hS hl) (fun q => kf ((oI_eq ha hb).mp q) H locs ls hP hS hl)
theorem V_if_ne (hx : OK x z own cc nL ret fr lo mc ms) {a : Int} {off : Int} {tgt : Nat} (hd : decode cc pc = .ok (.ifCond .ne off, 3)) (ht : (pc : Int) + off = (tgt : Int)) (ha : -2147483648 ≤ a ∧ a ≤ 2147483647) (kt : a ≠ 0 → V x z Po N I k n tgt L st) (kf : a = 0 → V x z Po N I k n (pc + 3) L st) : V x z Po N I k n pc L (vI a :: st) := fun H locs ls hP hS hl => lv_if_ne hx.1 hx.2.1 hd ht (fun q => kt (fun e => q ((oI_eq ha (b := 0) (by omega)).mpr e)) H locs ls hP hS hl) (fun q => kf ((oI_eq ha (b := 0) (by omega)).mp q) H locs ls hP hS hl)
theorem V_icmp_lt (hx : OK x z own cc nL ret fr lo mc ms) {a b : Int} {off : Int} {tgt : Nat} (hd : decode cc pc = .ok (.if_icmp .lt off, 3)) (ht : (pc : Int) + off = (tgt : Int)) (ha : -2147483648 ≤ a ∧ a ≤ 2147483647) (hb : -2147483648 ≤ b ∧ b ≤ 2147483647) (kt : a < b → V x z Po N I k n tgt L st) (kf : b ≤ a → V x z Po N I k n (pc + 3) L st) : V x z Po N I k n pc L (vI b :: vI a :: st) := fun H locs ls hP hS hl => lv_icmp_lt hx.1 hx.2.1 hd ht (fun q => kt ((oI_lt ha hb).mp q) H locs ls hP hS hl) (fun q => kf (Int.not_lt.mp (fun e => q ((oI_lt ha hb).mpr e))) H locs ls hP hS hl)
theorem V_if_lt (hx : OK x z own cc nL ret fr lo mc ms) {a : Int} {off : Int} {tgt : Nat} (hd : decode cc pc = .ok (.ifCond .lt off, 3)) (ht : (pc : Int) + off = (tgt : Int)) (ha : -2147483648 ≤ a ∧ a ≤ 2147483647) (kt : a < 0 → V x z Po N I k n tgt L st) (kf : 0 ≤ a → V x z Po N I k n (pc + 3) L st) : V x z Po N I k n pc L (vI a :: st) := fun H locs ls hP hS hl => lv_if_lt hx.1 hx.2.1 hd ht (fun q => kt ((oI_lt ha (b := 0) (by omega)).mp q) H locs ls hP hS hl) (fun q => kf (Int.not_lt.mp (fun e => q ((oI_lt ha (b := 0) (by omega)).mpr e))) H locs ls hP hS hl)
theorem V_icmp_ge (hx : OK x z own cc nL ret fr lo mc ms) {a b : Int} {off : Int} {tgt : Nat} (hd : decode cc pc = .ok (.if_icmp .ge off, 3)) (ht : (pc : Int) + off = (tgt : Int)) (ha : -2147483648 ≤ a ∧ a ≤ 2147483647) (hb : -2147483648 ≤ b ∧ b ≤ 2147483647) (kt : b ≤ a → V x z Po N I k n tgt L st) (kf : a < b → V x z Po N I k n (pc + 3) L st) : V x z Po N I k n pc L (vI b :: vI a :: st) := fun H locs ls hP hS hl => lv_icmp_ge hx.1 hx.2.1 hd ht (fun q => kt ((oI_le hb ha).mp q) H locs ls hP hS hl) (fun q => kf (Int.not_le.mp (fun e => q ((oI_le hb ha).mpr e))) H locs ls hP hS hl)
theorem V_if_ge (hx : OK x z own cc nL ret fr lo mc ms) {a : Int} {off : Int} {tgt : Nat} (hd : decode cc pc = .ok (.ifCond .ge off, 3)) (ht : (pc : Int) + off = (tgt : Int)) (ha : -2147483648 ≤ a ∧ a ≤ 2147483647) (kt : 0 ≤ a → V x z Po N I k n tgt L st) (kf : a < 0 → V x z Po N I k n (pc + 3) L st) : V x z Po N I k n pc L (vI a :: st) := fun H locs ls hP hS hl => lv_if_ge hx.1 hx.2.1 hd ht (fun q => kt ((oI_le (a := 0) (by omega) ha).mp q) H locs ls hP hS hl) (fun q => kf (Int.not_le.mp (fun e => q ((oI_le (a := 0) (by omega) ha).mpr e))) H locs ls hP hS hl)
theorem V_icmp_gt (hx : OK x z own cc nL ret fr lo mc ms) {a b : Int} {off : Int} {tgt : Nat} (hd : decode cc pc = .ok (.if_icmp .gt off, 3)) (ht : (pc : Int) + off = (tgt : Int)) (ha : -2147483648 ≤ a ∧ a ≤ 2147483647) (hb : -2147483648 ≤ b ∧ b ≤ 2147483647) (kt : b < a → V x z Po N I k n tgt L st) (kf : a ≤ b → V x z Po N I k n (pc + 3) L st) : V x z Po N I k n pc L (vI b :: vI a :: st) := fun H locs ls hP hS hl => lv_icmp_gt hx.1 hx.2.1 hd ht (fun q => kt ((oI_lt hb ha).mp q) H locs ls hP hS hl) (fun q => kf (Int.not_lt.mp (fun e => q ((oI_lt hb ha).mpr e))) H locs ls hP hS hl)
theorem V_if_gt (hx : OK x z own cc nL ret fr lo mc ms) {a : Int} {off : Int} {tgt : Nat} (hd : decode cc pc = .ok (.ifCond .gt off, 3)) (ht : (pc : Int) + off = (tgt : Int)) (ha : -2147483648 ≤ a ∧ a ≤ 2147483647) (kt : 0 < a → V x z Po N I k n tgt L st) (kf : a ≤ 0 → V x z Po N I k n (pc + 3) L st) : V x z Po N I k n pc L (vI a :: st) := fun H locs ls hP hS hl => lv_if_gt hx.1 hx.2.1 hd ht (fun q => kt ((oI_lt (a := 0) (by omega) ha).mp q) H locs ls hP hS hl) (fun q => kf (Int.not_lt.mp (fun e => q ((oI_lt (a := 0) (by omega) ha).mpr e))) H locs ls hP hS hl)
theorem V_icmp_le (hx : OK x z own cc nL ret fr lo mc ms) {a b : Int} {off : Int} {tgt : Nat} (hd : decode cc pc = .ok (.if_icmp .le off, 3)) (ht : (pc : Int) + off = (tgt : Int)) (ha : -2147483648 ≤ a ∧ a ≤ 2147483647) (hb : -2147483648 ≤ b ∧ b ≤ 2147483647) (kt : a ≤ b → V x z Po N I k n tgt L st) (kf : b < a → V x z Po N I k n (pc + 3) L st) : V x z Po N I k n pc L (vI b :: vI a :: st) := fun H locs ls hP hS hl => lv_icmp_le hx.1 hx.2.1 hd ht (fun q => kt ((oI_le ha hb).mp q) H locs ls hP hS hl) (fun q => kf (Int.not_le.mp (fun e => q ((oI_le ha hb).mpr e))) H locs ls hP hS hl)
theorem V_if_le (hx : OK x z own cc nL ret fr lo mc ms) {a : Int} {off : Int} {tgt : Nat} (hd : decode cc pc = .ok (.ifCond .le off, 3)) (ht : (pc : Int) + off = (tgt : Int)) (ha : -2147483648 ≤ a ∧ a ≤ 2147483647) (kt : a ≤ 0 → V x z Po N I k n tgt L st) (kf : 0 < a → V x z Po N I k n (pc + 3) L st) : V x z Po N I k n pc L (vI a :: st) := fun H locs ls hP hS hl => lv_if_le hx.1 hx.2.1 hd ht (fun q => kt ((oI_le ha (b := 0) (by omega)).mp q) H locs ls hP hS hl) (fun q => kf (Int.not_le.mp (fun e => q ((oI_le ha (b := 0) (by omega)).mpr e))) H locs ls hP hS hl)
theorem V_goto (hx : OK x z own cc nL ret fr lo mc ms) {off : Int} {tgt : Nat} (hd : decode cc pc = .ok (.goto off, 3)) (ht : (pc : Int) + off = (tgt : Int)) (kk : V x z Po N I k n tgt L st) : V x z Po N I k n pc L st := fun H locs ls hP hS hl => lv_goto hx.1 hx.2.1 hd ht (kk H locs ls hP hS hl)
theorem V_ifnull (hx : OK x z own cc nL ret fr lo mc ms) {a off : Int} {tgt : Nat} (hd : decode cc pc = .ok (.ifnull off, 3)) (ht : (pc : Int) + off = (tgt : Int)) (kt : a < 0 → V x z Po N I k n tgt L st) (kf : 0 ≤ a → V x z Po N I k n (pc + 3) L st) : V x z Po N I k n pc L (vR z a :: st) := by
  intro H locs ls hP hS hl
  rcases Int.lt_or_le a 0 with q | q
  · rw [vR_null q]; exact lv_ifnullN hx.1 hx.2.1 hd ht (kt q H locs ls hP hS hl)
  · rw [vR_ref q]; exact lv_ifnull hx.1 hx.2.1 hd (kf q H locs ls hP hS hl)
theorem V_ifnonnull (hx : OK x z own cc nL ret fr lo mc ms) {a off : Int} {tgt : Nat} (hd : decode cc pc = .ok (.ifnonnull off, 3)) (ht : (pc : Int) + off = (tgt : Int)) (kt : 0 ≤ a → V x z Po N I k n tgt L st) (kf : a < 0 → V x z Po N I k n (pc + 3) L st) : V x z Po N I k n pc L (vR z a :: st) := by
  intro H locs ls hP hS hl
  rcases Int.lt_or_le a 0 with q | q
  · rw [vR_null q]; exact lv_ifnonnullN hx.1 hx.2.1 hd (kf q H locs ls hP hS hl)
  · rw [vR_ref q]; exact lv_ifnonnull hx.1 hx.2.1 hd ht (kt q H locs ls hP hS hl)
theorem V_acmp_ne (hx : OK x z own cc nL ret fr lo mc ms) {a b off : Int} {tgt : Nat} (hd : decode cc pc = .ok (.if_acmp .ne off, 3)) (ht : (pc : Int) + off = (tgt : Int)) (ha : -1 ≤ a) (hb : -1 ≤ b) (kt : a ≠ b → V x z Po N I k n tgt L st) (kf : a = b → V x z Po N I k n (pc + 3) L st) : V x z Po N I k n pc L (vR z b :: vR z a :: st) := by
  intro H locs ls hP hS hl
  have key : vO z a = vO z b ↔ a = b := by
    unfold vO
    constructor
    · intro h
      split at h <;> split at h <;> simp at h <;> omega
    · rintro rfl; rfl
  exact lv_acmp_ne hx.1 hx.2.1 hd ht (fun q => kt (fun e => q (key.mpr e)) H locs ls hP hS hl) (fun q => kf (key.mp q) H locs ls hP hS hl)
theorem V_tblOut (hx : OK x z own cc nL ret fr lo mc ms) {a dflt l h : Int} {offs : Array Int} {len tgt : Nat} (hd : decode cc pc = .ok (.tableswitch dflt l h offs, len)) (ha : -2147483648 ≤ a ∧ a ≤ 2147483647) (ho : a < l ∨ h < a) (ht : (pc : Int) + dflt = (tgt : Int)) (kk : V x z Po N I k n tgt L st) : V x z Po N I k n pc L (vI a :: st) :=
  fun H locs ls hP hS hl => lv_tableOut hx.1 hx.2.1 hd (by rw [oI_rt ha]; exact ho) ht (kk H locs ls hP hS hl)
theorem V_tblIn (hx : OK x z own cc nL ret fr lo mc ms) {a dflt l h off : Int} {offs : Array Int} {len tgt : Nat} (hd : decode cc pc = .ok (.tableswitch dflt l h offs, len)) (ha : -2147483648 ≤ a ∧ a ≤ 2147483647) (h1 : l ≤ a) (h2 : a ≤ h) (ho : offs[(a - l).toNat]? = some off) (ht : (pc : Int) + off = (tgt : Int)) (kk : V x z Po N I k n tgt L st) : V x z Po N I k n pc L (vI a :: st) :=
  fun H locs ls hP hS hl => lv_tableIn hx.1 hx.2.1 hd (by rw [oI_rt ha]; omega) (by rw [oI_rt ha]; omega) (by rw [oI_rt ha]; exact ho) ht (kk H locs ls hP hS hl)
def c3 (a b : Int) : Int := if b < a then 1 else if a = b then 0 else -1
theorem V_lcmp (hx : OK x z own cc nL ret fr lo mc ms) {a b : Int} (hd : decode cc pc = .ok (.lcmp, 1)) (ha : -9223372036854775808 ≤ a ∧ a ≤ 9223372036854775807) (hb : -9223372036854775808 ≤ b ∧ b ≤ 9223372036854775807) (kk : V x z Po N I k n (pc + 1) L (vI (c3 a b) :: st)) : V x z Po N I k n pc L (vL b :: vL a :: st) := by
  intro H locs ls hP hS hl
  have e : lg_cmp (Int64.ofInt a) (Int64.ofInt b) = Int32.ofInt (c3 a b) := by
    have h1 : Int64.ofInt b < Int64.ofInt a ↔ b < a := by rw [Int64.lt_iff_toInt_lt, oL_rt ha, oL_rt hb]
    have h2 : Int64.ofInt a = Int64.ofInt b ↔ a = b := by rw [← Int64.toInt_inj, oL_rt ha, oL_rt hb]
    unfold lg_cmp c3
    simp only [h1, h2]
    split
    · rfl
    · split <;> rfl
  refine W.lcmp hx.1 hx.2.1 hd ?_
  rw [e]
  exact kk H locs ls hP hS hl
/-! ===== ends ===== -/
theorem V_ireturn (hx : OK x z own cc nL (some .int) fr lo mc ms) {a : Int} (hd : decode cc pc = .ok (.ireturn, 1)) (hk : k ≤ mc) (hn : n ≤ ms) (hq : Po (some (vI a)) N I) : V x z Po N I k n pc L [vI a] := by
  intro H locs ls hP hS hl
  obtain ⟨h1, h2, -, -, -, -, h7, h8, -, h10, h11, -⟩ := hx
  subst h10; subst h11
  refine W.widen hk hn ?_
  exact W.iret (hlocks := h8) h1 h2 h7 (fun t ht _ => ⟨⟨_, N, I, rfl, hq, by rw [ht]; exact hP⟩, hS.F ht⟩) (fun q h => hS.2.2 q h) hd
theorem V_zreturn (hx : OK x z own cc nL (some .boolean) fr lo mc ms) {a : Int} (hd : decode cc pc = .ok (.ireturn, 1)) (ha : a = 0 ∨ a = 1) (hk : k ≤ mc) (hn : n ≤ ms) (hq : Po (some (vI a)) N I) : V x z Po N I k n pc L [vI a] := by
  intro H locs ls hP hS hl
  obtain ⟨h1, h2, -, -, -, -, h7, h8, -, h10, h11, -⟩ := hx
  subst h10; subst h11
  refine W.widen hk hn ?_
  exact W.zret (hlocks := h8) h1 h2 h7 (by rcases ha with rfl | rfl <;> rfl) (fun t ht _ => ⟨⟨_, N, I, rfl, hq, by rw [ht]; exact hP⟩, hS.F ht⟩) (fun q h => hS.2.2 q h) hd
theorem V_lreturn (hx : OK x z own cc nL (some .long) fr lo mc ms) {a : Int} (hd : decode cc pc = .ok (.lreturn, 1)) (hk : k ≤ mc) (hn : n ≤ ms) (hq : Po (some (vL a)) N I) : V x z Po N I k n pc L [vL a] := by
  intro H locs ls hP hS hl
  obtain ⟨h1, h2, -, -, -, -, h7, h8, -, h10, h11, -⟩ := hx
  subst h10; subst h11
  refine W.widen hk hn ?_
  exact W.lret (hlocks := h8) h1 h2 h7 (fun t ht _ => ⟨⟨_, N, I, rfl, hq, by rw [ht]; exact hP⟩, hS.F ht⟩) (fun q h => hS.2.2 q h) hd
theorem V_areturn {cl : String} (hx : OK x z own cc nL (some (.object cl)) fr lo mc ms) {a : Int} (hd : decode cc pc = .ok (.areturn, 1)) (hk : k ≤ mc) (hn : n ≤ ms) (hq : Po (some (vR z a)) N I) : V x z Po N I k n pc L [vR z a] := by
  intro H locs ls hP hS hl
  obtain ⟨h1, h2, -, -, -, -, h7, h8, -, h10, h11, -⟩ := hx
  subst h10; subst h11
  refine W.widen hk hn ?_
  exact W.aret (hlocks := h8) h1 h2 h7 (Or.inl ⟨_, rfl⟩) (va_rf_or _) (fun t ht _ => ⟨⟨_, N, I, rfl, hq, by rw [ht]; exact hP⟩, hS.F ht⟩) (fun q h => hS.2.2 q h) hd
theorem V_return (hx : OK x z own cc nL none fr lo mc ms) (hd : decode cc pc = .ok (.return_, 1)) (hk : k ≤ mc) (hn : n ≤ ms) (hq : Po none N I) : V x z Po N I k n pc L [] := by
  intro H locs ls hP hS hl
  obtain ⟨h1, h2, -, -, -, -, h7, h8, -, h10, h11, -⟩ := hx
  subst h10; subst h11
  refine W.widen hk hn ?_
  exact W.vret (hlocks := h8) h1 h2 h7 (fun t ht _ => ⟨⟨_, N, I, rfl, hq, by rw [ht]; exact hP⟩, hS.F ht⟩) (fun q h => hS.2.2 q h) hd
end VR
