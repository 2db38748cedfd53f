set_option maxRecDepth 8000 in
theorem c_X11_in {l : Launch} {d : Dd} {z : Nat} {N : Int} {I : Mm} {v lo hi : Int} (hv : -9223372036854775808 ≤ v ∧ v ≤ 9223372036854775807) (h1 : -9223372036854775808 ≤ lo ∧ lo ≤ 9223372036854775807) (h2 : -9223372036854775808 ≤ hi ∧ hi ≤ 9223372036854775807) : Cn l d z yX11_in cX11_in 6 (some .boolean) 0 0 0 0 [vL v, vL lo, vL hi] N I (pv (vB (lo ≤ v ∧ v ≤ hi)) N I) := by
  refine Cn.ofA [(vL v, true), (vL lo, true), (vL hi, true)] [some (vL v), none, some (vL lo), none, some (vL hi), none] RX11 (by decide) rfl ⟨rfl, rfl, rfl, trivial⟩ (Nat.le_of_ble_eq_true rfl) rfl (fun x ed el hx hini => ?_)
  refine V_lload_0 hx dX11_in_0 ?_
  refine V_lload_2 hx dX11_in_1 ?_
  refine V_lif_lt (tgt := 17) hx dX11_in_2 dX11_in_3 (by decide) (by omega) (by omega) (fun h3 => ?_) (fun h3 => ?_)
  · refine V_iconst hx dX11_in_17 ?_
    refine V_zreturn hx dX11_in_18 (by first | omega | exact cif01 _) (by omega) (by omega) ?_
    first | exact ⟨by rw [vB_t ⟨by omega, by omega⟩], rfl, rfl⟩ | exact ⟨by rw [vB_f (by omega)], rfl, rfl⟩
  · refine V_lload_0 hx dX11_in_6 ?_
    refine V_lload_4 hx dX11_in_7 ?_
    refine V_lif_gt (tgt := 17) hx dX11_in_9 dX11_in_10 (by decide) (by omega) (by omega) (fun h10 => ?_) (fun h10 => ?_)
    · refine V_iconst hx dX11_in_17 ?_
      refine V_zreturn hx dX11_in_18 (by first | omega | exact cif01 _) (by omega) (by omega) ?_
      first | exact ⟨by rw [vB_t ⟨by omega, by omega⟩], rfl, rfl⟩ | exact ⟨by rw [vB_f (by omega)], rfl, rfl⟩
    · refine V_iconst hx dX11_in_13 ?_
      refine V_goto (tgt := 18) hx dX11_in_14 (by decide) ?_
      refine V_zreturn hx dX11_in_18 (by first | omega | exact cif01 _) (by omega) (by omega) ?_
      first | exact ⟨by rw [vB_t ⟨by omega, by omega⟩], rfl, rfl⟩ | exact ⟨by rw [vB_f (by omega)], rfl, rfl⟩

set_option maxRecDepth 8000 in
theorem c_X11_isStream {l : Launch} {d : Dd} {z : Nat} {N : Int} {I : Mm} {a : Int} (ha : -2147483648 ≤ a ∧ a ≤ 2147483647) : Cn l d z yX11_isStream cX11_isStream 1 (some .boolean) 1 25 0 0 [vI a] N I (pv (vB (0 ≤ a ∧ a ≤ 7)) N I) := by
  refine Cn.ofA [(vI a, false)] [some (vI a)] RX11 (by decide) rfl ⟨rfl, trivial⟩ (Nat.le_of_ble_eq_true rfl) rfl (fun x ed el hx hini => ?_)
  refine V_iload_0 hx dX11_isStream_0 ?_
  refine V_i2l hx dX11_isStream_1 (by omega) ?_
  refine V_lconst (v := 0) hx dX11_isStream_2 (by decide) ?_
  refine V_ldc2 (v := 7) hx kcX11_68 dX11_isStream_3 (by decide) ?_
  refine V_s3P hx el ed (c_X11_in (by omega) (by omega) (by omega)) myX11_in mlX11_70 dX11_isStream_6 (by decide) (by omega) rfl (by first | exact Nat.le_of_ble_eq_true rfl | simp [vI, vL, vR_cat, Value.category]) ?_
  refine V_zreturn hx dX11_isStream_9 (by first | omega | exact cif01 _) (by omega) (by omega) ?_
  first | exact ⟨rfl, rfl, rfl⟩ | skip

set_option maxRecDepth 8000 in
theorem c_X11_isLength {l : Launch} {d : Dd} {z : Nat} {N : Int} {I : Mm} {a : Int} (ha : -2147483648 ≤ a ∧ a ≤ 2147483647) : Cn l d z yX11_isLength cX11_isLength 1 (some .boolean) 1 25 0 0 [vI a] N I (pv (vB (1 ≤ a ∧ a ≤ 99)) N I) := by
  refine Cn.ofA [(vI a, false)] [some (vI a)] RX11 (by decide) rfl ⟨rfl, trivial⟩ (Nat.le_of_ble_eq_true rfl) rfl (fun x ed el hx hini => ?_)
  refine V_iload_0 hx dX11_isLength_0 ?_
  refine V_i2l hx dX11_isLength_1 (by omega) ?_
  refine V_lconst (v := 1) hx dX11_isLength_2 (by decide) ?_
  refine V_ldc2 (v := 99) hx kcX11_80 dX11_isLength_3 (by decide) ?_
  refine V_s3P hx el ed (c_X11_in (by omega) (by omega) (by omega)) myX11_in mlX11_70 dX11_isLength_6 (by decide) (by omega) rfl (by first | exact Nat.le_of_ble_eq_true rfl | simp [vI, vL, vR_cat, Value.category]) ?_
  refine V_zreturn hx dX11_isLength_9 (by first | omega | exact cif01 _) (by omega) (by omega) ?_
  first | exact ⟨rfl, rfl, rfl⟩ | skip

set_option maxRecDepth 8000 in
theorem c_X11_isSheet {l : Launch} {d : Dd} {z : Nat} {N : Int} {I : Mm} {a : Int} (ha : -2147483648 ≤ a ∧ a ≤ 2147483647) : Cn l d z yX11_isSheet cX11_isSheet 1 (some .boolean) 1 25 0 0 [vI a] N I (pv (vB (0 ≤ a ∧ a ≤ 3)) N I) := by
  refine Cn.ofA [(vI a, false)] [some (vI a)] RX11 (by decide) rfl ⟨rfl, trivial⟩ (Nat.le_of_ble_eq_true rfl) rfl (fun x ed el hx hini => ?_)
  refine V_iload_0 hx dX11_isSheet_0 ?_
  refine V_i2l hx dX11_isSheet_1 (by omega) ?_
  refine V_lconst (v := 0) hx dX11_isSheet_2 (by decide) ?_
  refine V_ldc2 (v := 3) hx kcX11_82 dX11_isSheet_3 (by decide) ?_
  refine V_s3P hx el ed (c_X11_in (by omega) (by omega) (by omega)) myX11_in mlX11_70 dX11_isSheet_6 (by decide) (by omega) rfl (by first | exact Nat.le_of_ble_eq_true rfl | simp [vI, vL, vR_cat, Value.category]) ?_
  refine V_zreturn hx dX11_isSheet_9 (by first | omega | exact cif01 _) (by omega) (by omega) ?_
  first | exact ⟨rfl, rfl, rfl⟩ | skip

set_option maxRecDepth 8000 in
theorem c_X11_isLane {l : Launch} {d : Dd} {z : Nat} {N : Int} {I : Mm} {a : Int} (ha : -2147483648 ≤ a ∧ a ≤ 2147483647) : Cn l d z yX11_isLane cX11_isLane 1 (some .boolean) 1 25 0 0 [vI a] N I (pv (vB (0 ≤ a ∧ a ≤ 2)) N I) := by
  refine Cn.ofA [(vI a, false)] [some (vI a)] RX11 (by decide) rfl ⟨rfl, trivial⟩ (Nat.le_of_ble_eq_true rfl) rfl (fun x ed el hx hini => ?_)
  refine V_iload_0 hx dX11_isLane_0 ?_
  refine V_i2l hx dX11_isLane_1 (by omega) ?_
  refine V_lconst (v := 0) hx dX11_isLane_2 (by decide) ?_
  refine V_ldc2 (v := 2) hx kcX11_138 dX11_isLane_3 (by decide) ?_
  refine V_s3P hx el ed (c_X11_in (by omega) (by omega) (by omega)) myX11_in mlX11_70 dX11_isLane_6 (by decide) (by omega) rfl (by first | exact Nat.le_of_ble_eq_true rfl | simp [vI, vL, vR_cat, Value.category]) ?_
  refine V_zreturn hx dX11_isLane_9 (by first | omega | exact cif01 _) (by omega) (by omega) ?_
  first | exact ⟨rfl, rfl, rfl⟩ | skip

set_option maxRecDepth 8000 in
theorem c_X11_isDigit {l : Launch} {d : Dd} {z : Nat} {N : Int} {I : Mm} {a : Int} (ha : -2147483648 ≤ a ∧ a ≤ 2147483647) : Cn l d z yX11_isDigit cX11_isDigit 1 (some .boolean) 1 25 0 0 [vI a] N I (pv (vB (48 ≤ a ∧ a ≤ 57)) N I) := by
  refine Cn.ofA [(vI a, false)] [some (vI a)] RX11 (by decide) rfl ⟨rfl, trivial⟩ (Nat.le_of_ble_eq_true rfl) rfl (fun x ed el hx hini => ?_)
  refine V_iload_0 hx dX11_isDigit_0 ?_
  refine V_i2l hx dX11_isDigit_1 (by omega) ?_
  refine V_ldc2 (v := 48) hx kcX11_169 dX11_isDigit_2 (by decide) ?_
  refine V_ldc2 (v := 57) hx kcX11_171 dX11_isDigit_5 (by decide) ?_
  refine V_s3P hx el ed (c_X11_in (by omega) (by omega) (by omega)) myX11_in mlX11_70 dX11_isDigit_8 (by decide) (by omega) rfl (by first | exact Nat.le_of_ble_eq_true rfl | simp [vI, vL, vR_cat, Value.category]) ?_
  refine V_zreturn hx dX11_isDigit_11 (by first | omega | exact cif01 _) (by omega) (by omega) ?_
  first | exact ⟨rfl, rfl, rfl⟩ | skip

set_option maxRecDepth 8000 in
theorem c_X11_setOf {l : Launch} {d : Dd} {z : Nat} {N : Int} {I : Mm} {s k : Int} (hN : 67 ≤ N) (hF : Fx I) (hi : 0 ≤ 7 * s + k ∧ 7 * s + k < 56) : Cn l d z yX11_setOf cX11_setOf 3 (some .int) 0 0 0 0 [vR z 49, vI s, vI k] N I (pq (I 50 (7 * s + k)) N I) := by
  refine Cn.ofA [(vR z 49, false), (vI s, false), (vI k, false)] [some (vR z 49), some (vI s), some (vI k)] RX11 (by decide) rfl ⟨cR z 49, rfl, rfl, trivial⟩ (Nat.le_of_ble_eq_true rfl) rfl (fun x ed el hx hini => ?_)
  refine V_aload_0 hx dX11_setOf_0 ?_
  refine V_getRe hx flX11_7 dX11_setOf_1 rfl (k49 hN) (hF.1 49 0 50 rfl) ?_
  refine V_bipush hx dX11_setOf_4 (by decide) ?_
  refine V_iload_1 hx dX11_setOf_6 ?_
  refine V_imul hx dX11_setOf_7 ?_
  refine V_iload_2 hx dX11_setOf_8 ?_
  refine V_iadd hx dX11_setOf_9 ?_
  refine V_ialoadx hx hF dX11_setOf_10 (k50 hN) (by decide) (by omega) (fun r10 => ?_)
  refine V_ireturn hx dX11_setOf_11 (by omega) (by omega) ?_
  exact ⟨rfl, rfl, rfl, r10⟩

set_option maxRecDepth 8000 in
theorem c_X11_of {l : Launch} {d : Dd} {z : Nat} {N : Int} {I : Mm} {w k : Int} (hN : 67 ≤ N) (hF : Fx I) (hi : 0 ≤ 13 * w + k ∧ 13 * w + k < 13000) : Cn l d z yX11_of cX11_of 3 (some .int) 0 0 0 0 [vR z 49, vI w, vI k] N I (pq (I 55 (13 * w + k)) N I) := by
  refine Cn.ofA [(vR z 49, false), (vI w, false), (vI k, false)] [some (vR z 49), some (vI w), some (vI k)] RX11 (by decide) rfl ⟨cR z 49, rfl, rfl, trivial⟩ (Nat.le_of_ble_eq_true rfl) rfl (fun x ed el hx hini => ?_)
  refine V_aload_0 hx dX11_of_0 ?_
  refine V_getRe hx flX11_25 dX11_of_1 rfl (k49 hN) (hF.1 49 5 55 rfl) ?_
  refine V_bipush hx dX11_of_4 (by decide) ?_
  refine V_iload_1 hx dX11_of_6 ?_
  refine V_imul hx dX11_of_7 ?_
  refine V_iload_2 hx dX11_of_8 ?_
  refine V_iadd hx dX11_of_9 ?_
  refine V_ialoadx hx hF dX11_of_10 (k55 hN) (by decide) (by omega) (fun r10 => ?_)
  refine V_ireturn hx dX11_of_11 (by omega) (by omega) ?_
  exact ⟨rfl, rfl, rfl, r10⟩

set_option maxRecDepth 8000 in
theorem c_X11_puts {l : Launch} {d : Dd} {z : Nat} {N : Int} {I : Mm} {w k v : Int} (hN : 67 ≤ N) (hF : Fx I) (hi : 0 ≤ 13 * w + k ∧ 13 * w + k < 13000) (hv : -2147483648 ≤ v ∧ v ≤ 2147483647) : Cn l d z yX11_puts cX11_puts 4 none 0 0 0 0 [vR z 49, vI w, vI k, vI v] N I (pN (fun N' I' => N' = N ∧ I' = up I 55 (13 * w + k) v ∧ Fx I')) := by
  refine Cn.ofA [(vR z 49, false), (vI w, false), (vI k, false), (vI v, false)] [some (vR z 49), some (vI w), some (vI k), some (vI v)] RX11 (by decide) rfl ⟨cR z 49, rfl, rfl, rfl, trivial⟩ (Nat.le_of_ble_eq_true rfl) rfl (fun x ed el hx hini => ?_)
  refine V_aload_0 hx dX11_puts_0 ?_
  refine V_getRe hx flX11_25 dX11_puts_1 rfl (k49 hN) (hF.1 49 5 55 rfl) ?_
  refine V_bipush hx dX11_puts_4 (by decide) ?_
  refine V_iload_1 hx dX11_puts_6 ?_
  refine V_imul hx dX11_puts_7 ?_
  refine V_iload_2 hx dX11_puts_8 ?_
  refine V_iadd hx dX11_puts_9 ?_
  refine V_iload_3 hx dX11_puts_10 ?_
  refine V_iastorex hx hF dX11_puts_11 (k55 hN) (by decide) (by omega) (fx_none rfl _) (by omega) (Or.inl (by decide)) (fun hF => ?_)
  refine V_return hx dX11_puts_12 (by omega) (by omega) ?_
  exact ⟨rfl, rfl, rfl, hF⟩

set_option maxRecDepth 8000 in
theorem c_X11_isWord {l : Launch} {d : Dd} {z : Nat} {N : Int} {I : Mm} {w : Int} (hN : 67 ≤ N) (hF : Fx I) (hw : -2147483648 ≤ w ∧ w ≤ 2147483647) (hm : 0 ≤ I 49 6) : Cn l d z yX11_isWord cX11_isWord 2 (some .boolean) 1 25 0 0 [vR z 49, vI w] N I (pv (vB (0 ≤ w ∧ w ≤ I 49 6 - 1)) N I) := by
  refine Cn.ofA [(vR z 49, false), (vI w, false)] [some (vR z 49), some (vI w)] RX11 (by decide) rfl ⟨cR z 49, rfl, trivial⟩ (Nat.le_of_ble_eq_true rfl) rfl (fun x ed el hx hini => ?_)
  refine V_iload_1 hx dX11_isWord_0 ?_
  refine V_i2l hx dX11_isWord_1 (by omega) ?_
  refine V_lconst (v := 0) hx dX11_isWord_2 (by decide) ?_
  refine V_aload_0 hx dX11_isWord_3 ?_
  refine V_getIx 6 hx hF flX11_96 dX11_isWord_4 rfl rfl (k49 hN) (fun r4 => ?_)
  refine V_iconst hx dX11_isWord_7 ?_
  refine V_isub hx dX11_isWord_8 ?_
  refine V_i2l hx dX11_isWord_9 (by omega) ?_
  refine V_s3P hx el ed (c_X11_in (by omega) (by omega) (by omega)) myX11_in mlX11_70 dX11_isWord_10 (by decide) (by omega) rfl (by first | exact Nat.le_of_ble_eq_true rfl | simp [vI, vL, vR_cat, Value.category]) ?_
  refine V_zreturn hx dX11_isWord_13 (by first | omega | exact cif01 _) (by omega) (by omega) ?_
  first | exact ⟨rfl, rfl, rfl⟩ | skip

abbrev okSet (k v : Int) : Prop := (k = 0 ∧ 0 ≤ v ∧ v ≤ 9) ∨ (k = 1 ∧ 1 ≤ v ∧ v ≤ 16) ∨ (k = 2 ∧ 0 ≤ v ∧ v ≤ 999) ∨ (k = 3 ∧ 0 ≤ v ∧ v ≤ 99) ∨ (k = 4 ∧ 0 ≤ v ∧ v ≤ 3) ∨ (k = 5 ∧ 0 ≤ v ∧ v ≤ 999) ∨ (k = 6 ∧ 0 ≤ v ∧ v ≤ 16)

set_option maxRecDepth 8000 in
theorem c_X11_isSet {l : Launch} {d : Dd} {z : Nat} {N : Int} {I : Mm} {k v : Int} (hk : -2147483648 ≤ k ∧ k ≤ 2147483647) (hv : -2147483648 ≤ v ∧ v ≤ 2147483647) : Cn l d z yX11_isSet cX11_isSet 2 (some .boolean) 1 25 0 0 [vI k, vI v] N I (pv (vB (okSet k v)) N I) := by
  refine Cn.ofA [(vI k, false), (vI v, false)] [some (vI k), some (vI v)] RX11 (by decide) rfl ⟨rfl, rfl, trivial⟩ (Nat.le_of_ble_eq_true rfl) rfl (fun x ed el hx hini => ?_)
  refine V_iload_0 hx dX11_isSet_0 ?_
  rcases (show k = 0 ∨ k = 1 ∨ k = 2 ∨ k = 3 ∨ k = 4 ∨ k = 5 ∨ k = 6 ∨ k < 0 ∨ 6 < k by omega) with hsw | hsw | hsw | hsw | hsw | hsw | hsw | hsw
  · refine V_tblIn (tgt := 44) hx dX11_isSet_1 (by omega) (by omega) (by omega) (by rw [hsw]; rfl) (by decide) ?_
    refine V_iload_1 hx dX11_isSet_44 ?_
    refine V_i2l hx dX11_isSet_45 (by omega) ?_
    refine V_lconst (v := 0) hx dX11_isSet_46 (by decide) ?_
    refine V_ldc2 (v := 9) hx kcX11_74 dX11_isSet_47 (by decide) ?_
    refine V_s3P hx el ed (c_X11_in (by omega) (by omega) (by omega)) myX11_in mlX11_70 dX11_isSet_50 (by decide) (by omega) rfl (by first | exact Nat.le_of_ble_eq_true rfl | simp [vI, vL, vR_cat, Value.category]) ?_
    refine V_zreturn hx dX11_isSet_53 (by first | omega | exact cif01 _) (by omega) (by omega) ?_
    exact ⟨by first | exact congrArg some (vB_iff (by unfold okSet; omega)) | rw [vB_f (by unfold okSet; omega)], rfl, rfl⟩
  · refine V_tblIn (tgt := 54) hx dX11_isSet_1 (by omega) (by omega) (by omega) (by rw [hsw]; rfl) (by decide) ?_
    refine V_iload_1 hx dX11_isSet_54 ?_
    refine V_i2l hx dX11_isSet_55 (by omega) ?_
    refine V_lconst (v := 1) hx dX11_isSet_56 (by decide) ?_
    refine V_ldc2 (v := 16) hx kcX11_76 dX11_isSet_57 (by decide) ?_
    refine V_s3P hx el ed (c_X11_in (by omega) (by omega) (by omega)) myX11_in mlX11_70 dX11_isSet_60 (by decide) (by omega) rfl (by first | exact Nat.le_of_ble_eq_true rfl | simp [vI, vL, vR_cat, Value.category]) ?_
    refine V_zreturn hx dX11_isSet_63 (by first | omega | exact cif01 _) (by omega) (by omega) ?_
    exact ⟨by first | exact congrArg some (vB_iff (by unfold okSet; omega)) | rw [vB_f (by unfold okSet; omega)], rfl, rfl⟩
  · refine V_tblIn (tgt := 64) hx dX11_isSet_1 (by omega) (by omega) (by omega) (by rw [hsw]; rfl) (by decide) ?_
    refine V_iload_1 hx dX11_isSet_64 ?_
    refine V_i2l hx dX11_isSet_65 (by omega) ?_
    refine V_lconst (v := 0) hx dX11_isSet_66 (by decide) ?_
    refine V_ldc2 (v := 999) hx kcX11_78 dX11_isSet_67 (by decide) ?_
    refine V_s3P hx el ed (c_X11_in (by omega) (by omega) (by omega)) myX11_in mlX11_70 dX11_isSet_70 (by decide) (by omega) rfl (by first | exact Nat.le_of_ble_eq_true rfl | simp [vI, vL, vR_cat, Value.category]) ?_
    refine V_zreturn hx dX11_isSet_73 (by first | omega | exact cif01 _) (by omega) (by omega) ?_
    exact ⟨by first | exact congrArg some (vB_iff (by unfold okSet; omega)) | rw [vB_f (by unfold okSet; omega)], rfl, rfl⟩
  · refine V_tblIn (tgt := 74) hx dX11_isSet_1 (by omega) (by omega) (by omega) (by rw [hsw]; rfl) (by decide) ?_
    refine V_iload_1 hx dX11_isSet_74 ?_
    refine V_i2l hx dX11_isSet_75 (by omega) ?_
    refine V_lconst (v := 0) hx dX11_isSet_76 (by decide) ?_
    refine V_ldc2 (v := 99) hx kcX11_80 dX11_isSet_77 (by decide) ?_
    refine V_s3P hx el ed (c_X11_in (by omega) (by omega) (by omega)) myX11_in mlX11_70 dX11_isSet_80 (by decide) (by omega) rfl (by first | exact Nat.le_of_ble_eq_true rfl | simp [vI, vL, vR_cat, Value.category]) ?_
    refine V_zreturn hx dX11_isSet_83 (by first | omega | exact cif01 _) (by omega) (by omega) ?_
    exact ⟨by first | exact congrArg some (vB_iff (by unfold okSet; omega)) | rw [vB_f (by unfold okSet; omega)], rfl, rfl⟩
  · refine V_tblIn (tgt := 84) hx dX11_isSet_1 (by omega) (by omega) (by omega) (by rw [hsw]; rfl) (by decide) ?_
    refine V_iload_1 hx dX11_isSet_84 ?_
    refine V_i2l hx dX11_isSet_85 (by omega) ?_
    refine V_lconst (v := 0) hx dX11_isSet_86 (by decide) ?_
    refine V_ldc2 (v := 3) hx kcX11_82 dX11_isSet_87 (by decide) ?_
    refine V_s3P hx el ed (c_X11_in (by omega) (by omega) (by omega)) myX11_in mlX11_70 dX11_isSet_90 (by decide) (by omega) rfl (by first | exact Nat.le_of_ble_eq_true rfl | simp [vI, vL, vR_cat, Value.category]) ?_
    refine V_zreturn hx dX11_isSet_93 (by first | omega | exact cif01 _) (by omega) (by omega) ?_
    exact ⟨by first | exact congrArg some (vB_iff (by unfold okSet; omega)) | rw [vB_f (by unfold okSet; omega)], rfl, rfl⟩
  · refine V_tblIn (tgt := 94) hx dX11_isSet_1 (by omega) (by omega) (by omega) (by rw [hsw]; rfl) (by decide) ?_
    refine V_iload_1 hx dX11_isSet_94 ?_
    refine V_i2l hx dX11_isSet_95 (by omega) ?_
    refine V_lconst (v := 0) hx dX11_isSet_96 (by decide) ?_
    refine V_ldc2 (v := 999) hx kcX11_78 dX11_isSet_97 (by decide) ?_
    refine V_s3P hx el ed (c_X11_in (by omega) (by omega) (by omega)) myX11_in mlX11_70 dX11_isSet_100 (by decide) (by omega) rfl (by first | exact Nat.le_of_ble_eq_true rfl | simp [vI, vL, vR_cat, Value.category]) ?_
    refine V_zreturn hx dX11_isSet_103 (by first | omega | exact cif01 _) (by omega) (by omega) ?_
    exact ⟨by first | exact congrArg some (vB_iff (by unfold okSet; omega)) | rw [vB_f (by unfold okSet; omega)], rfl, rfl⟩
  · refine V_tblIn (tgt := 104) hx dX11_isSet_1 (by omega) (by omega) (by omega) (by rw [hsw]; rfl) (by decide) ?_
    refine V_iload_1 hx dX11_isSet_104 ?_
    refine V_i2l hx dX11_isSet_105 (by omega) ?_
    refine V_lconst (v := 0) hx dX11_isSet_106 (by decide) ?_
    refine V_ldc2 (v := 16) hx kcX11_76 dX11_isSet_107 (by decide) ?_
    refine V_s3P hx el ed (c_X11_in (by omega) (by omega) (by omega)) myX11_in mlX11_70 dX11_isSet_110 (by decide) (by omega) rfl (by first | exact Nat.le_of_ble_eq_true rfl | simp [vI, vL, vR_cat, Value.category]) ?_
    refine V_zreturn hx dX11_isSet_113 (by first | omega | exact cif01 _) (by omega) (by omega) ?_
    exact ⟨by first | exact congrArg some (vB_iff (by unfold okSet; omega)) | rw [vB_f (by unfold okSet; omega)], rfl, rfl⟩
  · refine V_tblOut (tgt := 114) hx dX11_isSet_1 (by omega) (by omega) (by decide) ?_
    refine V_iconst hx dX11_isSet_114 ?_
    refine V_zreturn hx dX11_isSet_115 (by first | omega | exact cif01 _) (by omega) (by omega) ?_
    exact ⟨by first | exact congrArg some (vB_iff (by unfold okSet; omega)) | rw [vB_f (by unfold okSet; omega)], rfl, rfl⟩

