/-! ===== the JDK's methods that the class calls ===== -/
theorem Cn.ofAF {l : Launch} {d : Dd} {z : Nat} {y : MethodName} {cc : ByteArray} {nL : Nat} {ret : Option FieldType} {fr lo mc ms : Nat} {N : Int} {I : Mm} {Po : Pst} (Ar : List (Value × Bool)) (L : List (Option Value)) (own : String)
    (hy : plainFor y = true) (ho : y.cls = own) (hc : catok Ar) (hn : (Ar.flatMap fun p => if p.2 = true then [0, 0] else [0]).length ≤ nL) (hL : lvq Ar nL = L)
    (body : ∀ x : Cx, xd x = d → xl x = l → OK x z own cc nL ret fr lo mc ms → (y.name = "<init>" → (xt x).name = "<init>") → V x z Po N I 0 0 0 L []) : Cn l d z y cc nL ret fr lo mc ms (Ar.map (·.1)) N I Po := by
  obtain ⟨h1, h2⟩ := catok_eq hc
  have hL2 : lv0 (Ar.map (·.1)) nL = L := by
    unfold lv0
    rw [h1, h2]
    exact hL
  refine va_MetF (cc := cc) (maxL := nL) (ret := ret) hy rfl ?_
  intro p e s m a below meth c s₁ B hml hv
  obtain ⟨rfl, hP, hK⟩ := hv
  have hts : ∀ w ∈ gtbl, w.before (Ar.map (·.1)).toArray s = true := fun w hw => atoms_spec (ws := Cond.code y cc nL ret :: gtbl) B.pre w (List.mem_cons_of_mem _ hw)
  have hown : s.vm.findClass own = some m.cls := by rw [← ho]; exact findClass_of_methodNamed B.named
  rw [lg_entry_eq]
  subst hL2
  exact body ((d, mc, ms), p, l, e, { frames := fr, cells := mc, slots := ms, locals := lo }, s, m, (Ar.map (·.1)).toArray, below, meth, c) rfl rfl
    ⟨B.exec, B.bytes, hml, hown, hts, hK, B.returns, B.notSynchronized, rfl, rfl, rfl, by rw [hP.2.1]; omega⟩ (fun h => by have := (name_of_methodNamed B.named B.method).1; rw [this]; exact h) s.heap [] _ hP va_S.rf (lv0_ok _ (by rw [h2]; exact hn))
theorem oI_tdiv {a b : Int} (ha : -1073741824 ≤ a ∧ a ≤ 1073741824) (hb : 1 ≤ b ∧ b ≤ 1073741824) : Int32.ofInt a / Int32.ofInt b = Int32.ofInt (a.tdiv b) := by
  have h1 : (a.tdiv b).natAbs ≤ a.natAbs := by
    rw [Int.natAbs_tdiv]
    exact Nat.div_le_self _ _
  apply Int32.toInt_inj.mp
  rw [Int32.toInt_div, oI_rt (by omega), oI_rt (by omega), oI_rt (by omega)]
  exact Int.bmod_eq_of_le (by omega) (by omega)
theorem V_idivT {x : Cx} {z : Nat} {own : String} {cc : ByteArray} {nL : Nat} {ret : Option FieldType} {fr lo mc ms : Nat} {Po : Pst} {N : Int} {I : Mm} {k n pc : Nat} {L : List (Option Value)} {st : List Value} (hx : OK x z own cc nL ret fr lo mc ms) {a b : Int} (hd : decode cc pc = .ok (.idiv, 1)) (ha : -1073741824 ≤ a ∧ a ≤ 1073741824) (hb : 1 ≤ b ∧ b ≤ 1073741824) (kk : V x z Po N I k n (pc + 1) L (vI (a.tdiv b) :: st)) : V x z Po N I k n pc L (vI b :: vI a :: st) :=
  fun H locs ls hP hS hl => lv_idiv hx.1 hx.2.1 hd (oI_ne0 (by omega) (by omega)) (by rw [oI_tdiv ha hb]; exact kk H locs ls hP hS hl)
/-- the sign of an xor with a number that is not below 0 -/
theorem oI_xor {a b : Int} (ha : -2147483648 ≤ a ∧ a ≤ 2147483647) (hb : 0 ≤ b ∧ b ≤ 2147483647) : ∃ c : Int, Int32.ofInt a ^^^ Int32.ofInt b = Int32.ofInt c ∧ (-2147483648 ≤ c ∧ c ≤ 2147483647) ∧ (0 ≤ c ↔ 0 ≤ a) := by
  have key : ∀ v : Int32, (0 ≤ v.toInt ↔ v.toBitVec.msb = false) := by
    intro v
    show 0 ≤ v.toBitVec.toInt ↔ _
    rw [BitVec.msb_eq_toInt]
    simp
  refine ⟨(Int32.ofInt a ^^^ Int32.ofInt b).toInt, (Int32.ofInt_toInt _).symm, ?_, ?_⟩
  · have h1 := Int32.le_toInt (Int32.ofInt a ^^^ Int32.ofInt b)
    have h2 := Int32.toInt_lt (Int32.ofInt a ^^^ Int32.ofInt b)
    omega
  · have h1 := key (Int32.ofInt a ^^^ Int32.ofInt b)
    have h2 := key (Int32.ofInt a)
    have h3 := key (Int32.ofInt b)
    rw [oI_rt ha] at h2
    rw [oI_rt (by omega)] at h3
    rw [Int32.toBitVec_xor, BitVec.msb_xor, h3.mp hb.1, Bool.xor_false] at h1
    rw [h1, h2]
theorem upR_s (I : Mm) (a : Int) (f : Int → Int) : upR I a f a = f := by unfold upR; rw [if_pos rfl]
theorem upR_n {I : Mm} {a a' : Int} {f : Int → Int} (h : a' ≠ a) : upR I a f a' = I a' := by unfold upR; rw [if_neg h]
theorem Fx_upR {I : Mm} (h : Fx I) {a : Int} {f : Int → Int} (hf : fxA a = []) (hv : ∀ q : Int, -2147483648 ≤ f q ∧ f q ≤ 2147483647) (hw : a ≠ 57 ∧ a ≠ 8 ∧ a ≠ 10) : Fx (upR I a f) := by
  refine ⟨fun a' k' v' he => ?_, fun a' k' => ?_, fun a' k' ha' => ?_⟩
  · have : a' ≠ a := by
      rintro rfl
      rw [fx_none hf] at he
      cases he
    rw [upR_n this]
    exact h.1 a' k' v' he
  · by_cases hh : a' = a
    · rw [hh, upR_s]; exact hv k'
    · rw [upR_n hh]; exact h.2.1 a' k'
  · rw [upR_n (by omega)]
    exact h.2.2 a' k' ha'
/-- the first m places hold v -/
def filR (I : Mm) (a m v : Int) : Mm := upR I a (fun q => if 0 ≤ q ∧ q < m then v else I a q)
theorem filR_0 (I : Mm) (a v : Int) : filR I a 0 v = I := by
  funext a' q
  unfold filR upR
  by_cases h : a' = a
  · subst h
    rw [if_pos rfl, if_neg (by omega)]
  · rw [if_neg h]
theorem filR_s {I : Mm} {a m v : Int} (hm : 0 ≤ m) : up (filR I a m v) a m v = filR I a (m + 1) v := by
  funext a' q
  rw [up_def]
  unfold filR upR
  by_cases h : a' = a
  · subst h
    rw [if_pos rfl, if_pos rfl]
    by_cases hq : q = m
    · rw [if_pos ⟨rfl, hq⟩, if_pos (by omega)]
    · rw [if_neg (fun c => hq c.2)]
      by_cases h2 : 0 ≤ q ∧ q < m
      · rw [if_pos h2, if_pos (by omega)]
      · rw [if_neg h2, if_neg (by omega)]
  · rw [if_neg h, if_neg h, if_neg (fun c => h c.1)]
theorem Fx_fil {I : Mm} (h : Fx I) {a m v : Int} (hf : fxA a = []) (hv : -2147483648 ≤ v ∧ v ≤ 2147483647) (hw : a ≠ 57 ∧ a ≠ 8 ∧ a ≠ 10) : Fx (filR I a m v) := by
  refine Fx_upR h hf (fun q => ?_) hw
  split
  · exact hv
  · exact h.2.1 a q

set_option maxRecDepth 8000 in
theorem c_J9_max_7cf53 {l : Launch} {d : Dd} {z : Nat} {N : Int} {I : Mm} {a b : Int} (ha : -2147483648 ≤ a ∧ a ≤ 2147483647) (hb : -2147483648 ≤ b ∧ b ≤ 2147483647) : Cn l d z yJ9_max_7cf53 cJ9_max_7cf53 2 (some .int) 0 0 0 0 [vI a, vI b] N I (pq (max a b) N I) := by
  refine Cn.ofAF [(vI a, false), (vI b, false)] [some (vI a), some (vI b)] RJ9 (by decide +kernel) rfl ⟨rfl, rfl, trivial⟩ (Nat.le_of_ble_eq_true rfl) rfl (fun x ed el hx hini => ?_)
  refine V_iload_0 hx dJ9_max_7cf53_0 ?_
  refine V_iload_1 hx dJ9_max_7cf53_1 ?_
  refine V_icmp_lt (tgt := 9) hx dJ9_max_7cf53_2 (by decide) (by omega) (by omega) (fun h2 => ?_) (fun h2 => ?_)
  · refine V_iload_1 hx dJ9_max_7cf53_9 ?_
    refine V_ireturn hx dJ9_max_7cf53_10 (by omega) (by omega) ?_
    exact ⟨congrArg some (congrArg vI (by omega)), rfl, rfl, by omega⟩
  · refine V_iload_0 hx dJ9_max_7cf53_5 ?_
    refine V_goto (tgt := 10) hx dJ9_max_7cf53_6 (by decide) ?_
    refine V_ireturn hx dJ9_max_7cf53_10 (by omega) (by omega) ?_
    exact ⟨congrArg some (congrArg vI (by omega)), rfl, rfl, by omega⟩

set_option maxRecDepth 8000 in
theorem c_J9_min_7cf53 {l : Launch} {d : Dd} {z : Nat} {N : Int} {I : Mm} {a b : Int} (ha : -2147483648 ≤ a ∧ a ≤ 2147483647) (hb : -2147483648 ≤ b ∧ b ≤ 2147483647) : Cn l d z yJ9_min_7cf53 cJ9_min_7cf53 2 (some .int) 0 0 0 0 [vI a, vI b] N I (pq (min a b) N I) := by
  refine Cn.ofAF [(vI a, false), (vI b, false)] [some (vI a), some (vI b)] RJ9 (by decide +kernel) rfl ⟨rfl, rfl, trivial⟩ (Nat.le_of_ble_eq_true rfl) rfl (fun x ed el hx hini => ?_)
  refine V_iload_0 hx dJ9_min_7cf53_0 ?_
  refine V_iload_1 hx dJ9_min_7cf53_1 ?_
  refine V_icmp_gt (tgt := 9) hx dJ9_min_7cf53_2 (by decide) (by omega) (by omega) (fun h2 => ?_) (fun h2 => ?_)
  · refine V_iload_1 hx dJ9_min_7cf53_9 ?_
    refine V_ireturn hx dJ9_min_7cf53_10 (by omega) (by omega) ?_
    exact ⟨congrArg some (congrArg vI (by omega)), rfl, rfl, by omega⟩
  · refine V_iload_0 hx dJ9_min_7cf53_5 ?_
    refine V_goto (tgt := 10) hx dJ9_min_7cf53_6 (by decide) ?_
    refine V_ireturn hx dJ9_min_7cf53_10 (by omega) (by omega) ?_
    exact ⟨congrArg some (congrArg vI (by omega)), rfl, rfl, by omega⟩

set_option maxRecDepth 8000 in
theorem c_J9_floorDiv_7cf53 {l : Launch} {d : Dd} {z : Nat} {N : Int} {I : Mm} {a b : Int} (ha : -1073741824 ≤ a ∧ a ≤ 1073741824) (hb : 1 ≤ b ∧ b ≤ 1000000) : Cn l d z yJ9_floorDiv_7cf53 cJ9_floorDiv_7cf53 3 (some .int) 0 0 0 0 [vI a, vI b] N I (pq (a / b) N I) := by
  have hfl := floor_t (v := a) (d := b) (by omega)
  have hb1 : (a.tdiv b).natAbs ≤ a.natAbs := by rw [Int.natAbs_tdiv]; exact Nat.div_le_self _ _
  have hb2 : (a.tdiv b * b).natAbs ≤ a.natAbs := by
    rw [Int.natAbs_mul, Int.natAbs_tdiv]
    exact Nat.div_mul_le_self _ _
  have hsg : 0 ≤ a → 0 ≤ a.tdiv b ∧ a.tdiv b * b ≤ a := fun h => by
    have h1 := Int.tdiv_nonneg h (show 0 ≤ b by omega)
    have h2 := Int.mul_nonneg h1 (show 0 ≤ b by omega)
    exact ⟨h1, by omega⟩
  have hsn : a < 0 → a ≤ a.tdiv b * b := fun h => by
    have h1 : a.tdiv b ≤ 0 := by
      rw [show a = -(-a) by omega, Int.neg_tdiv]
      have := Int.tdiv_nonneg (show 0 ≤ -a by omega) (show 0 ≤ b by omega)
      omega
    have h2 : a.tdiv b * b ≤ 0 := Int.mul_nonpos_of_nonpos_of_nonneg h1 (by omega)
    omega
  obtain ⟨cx, ecx, hcr, hcs⟩ := oI_xor (a := a) (b := b) (by omega) (by omega)
  refine Cn.ofAF [(vI a, false), (vI b, false)] [some (vI a), some (vI b), none] RJ9 (by decide +kernel) rfl ⟨rfl, rfl, trivial⟩ (Nat.le_of_ble_eq_true rfl) rfl (fun x ed el hx hini => ?_)
  refine V_iload_0 hx dJ9_floorDiv_7cf53_0 ?_
  refine V_iload_1 hx dJ9_floorDiv_7cf53_1 ?_
  refine V_idivT hx dJ9_floorDiv_7cf53_2 (by omega) (by omega) ?_
  refine V_istore_2 hx (by first | exact nc_I | exact nc_R | exact nc_n) dJ9_floorDiv_7cf53_3 ?_
  refine V_iload_0 hx dJ9_floorDiv_7cf53_4 ?_
  refine V_iload_1 hx dJ9_floorDiv_7cf53_5 ?_
  refine V_ixor hx cx dJ9_floorDiv_7cf53_6 ecx ?_
  refine V_if_ge (tgt := 21) hx dJ9_floorDiv_7cf53_7 (by decide) (by omega) (fun h7 => ?_) (fun h7 => ?_)
  · refine V_iload_2 hx dJ9_floorDiv_7cf53_21 ?_
    refine V_ireturn hx dJ9_floorDiv_7cf53_22 (by omega) (by omega) ?_
    exact ⟨congrArg some (congrArg vI (by omega)), rfl, rfl, by omega⟩
  · refine V_iload_2 hx dJ9_floorDiv_7cf53_10 ?_
    refine V_iload_1 hx dJ9_floorDiv_7cf53_11 ?_
    refine V_imul hx dJ9_floorDiv_7cf53_12 ?_
    refine V_iload_0 hx dJ9_floorDiv_7cf53_13 ?_
    refine V_icmp_eq (tgt := 21) hx dJ9_floorDiv_7cf53_14 (by decide) (by omega) (by omega) (fun h14 => ?_) (fun h14 => ?_)
    · refine V_iload_2 hx dJ9_floorDiv_7cf53_21 ?_
      refine V_ireturn hx dJ9_floorDiv_7cf53_22 (by omega) (by omega) ?_
      exact ⟨congrArg some (congrArg vI (by omega)), rfl, rfl, by omega⟩
    · refine V_iload_2 hx dJ9_floorDiv_7cf53_17 ?_
      refine V_iconst hx dJ9_floorDiv_7cf53_18 ?_
      refine V_isub hx dJ9_floorDiv_7cf53_19 ?_
      refine V_ireturn hx dJ9_floorDiv_7cf53_20 (by omega) (by omega) ?_
      exact ⟨congrArg some (congrArg vI (by omega)), rfl, rfl, by omega⟩

set_option maxRecDepth 8000 in
theorem c_J7_fill_53178 {l : Launch} {d : Dd} {z : Nat} {N : Int} {I : Mm} {a v : Int} {m : Nat} (hF : Fx I) (ha : shk N a (1, m)) (hm : m ≤ 100000) (hfx : fxA a = []) (hv : -2147483648 ≤ v ∧ v ≤ 2147483647) (hw : a ≠ 57 ∧ a ≠ 8 ∧ a ≠ 10) : Cn l d z yJ7_fill_53178 cJ7_fill_53178 4 none 0 0 0 0 [vR z a, vI v] N I (pN (fun N' I' => N' = N ∧ I' = filR I a m v ∧ Fx I')) := by
  refine Cn.ofAF [(vR z a, false), (vI v, false)] [some (vR z a), some (vI v), none, none] RJ7 (by decide +kernel) rfl ⟨cR z a, rfl, trivial⟩ (Nat.le_of_ble_eq_true rfl) rfl (fun x ed el hx hini => ?_)
  refine V_iconst hx dJ7_fill_53178_0 ?_
  refine V_istore_2 hx (by first | exact nc_I | exact nc_R | exact nc_n) dJ7_fill_53178_1 ?_
  refine V_aload_0 hx dJ7_fill_53178_2 ?_
  refine V_alen hx dJ7_fill_53178_3 ha (Or.inl rfl) ?_
  refine V_istore_3 hx (by first | exact nc_I | exact nc_R | exact nc_n) dJ7_fill_53178_4 ?_
  refine V_mem (filR I a 0 v) (filR_0 I a v).symm ?_
  refine loop_fn (m : Int) (by omega) (fun i => V x z _ N (filR I a i v) 0 0 5 [some (vR z a), some (vI v), some (vI i), some (vI (m : Int))] []) ?_ ?_
  · refine V_iload_2 hx dJ7_fill_53178_5 ?_
    refine V_iload_3 hx dJ7_fill_53178_6 ?_
    refine V_icmp_ge (tgt := 20) hx dJ7_fill_53178_7 (by decide) (by omega) (by omega) (fun h7 => ?_) (fun h7 => ?_)
    · refine V_return hx dJ7_fill_53178_20 (by omega) (by omega) ?_
      exact ⟨rfl, rfl, rfl, Fx_fil hF hfx hv hw⟩
    · exfalso; omega
  · intro i hi0 hi1 ih
    refine V_iload_2 hx dJ7_fill_53178_5 ?_
    refine V_iload_3 hx dJ7_fill_53178_6 ?_
    refine V_icmp_ge (tgt := 20) hx dJ7_fill_53178_7 (by decide) (by omega) (by omega) (fun h7 => ?_) (fun h7 => ?_)
    · exfalso; omega
    · refine V_aload_0 hx dJ7_fill_53178_10 ?_
      refine V_iload_2 hx dJ7_fill_53178_11 ?_
      refine V_iload_1 hx dJ7_fill_53178_12 ?_
      refine V_iastore hx dJ7_fill_53178_13 ha (by omega) (by omega) ?_
      refine V_iinc_2 hx (by first | exact nc_I | exact nc_R | exact nc_n) dJ7_fill_53178_14 ?_
      refine V_goto (tgt := 5) hx dJ7_fill_53178_17 (by decide) ?_
      exact V_mem _ (filR_s hi0) ih

