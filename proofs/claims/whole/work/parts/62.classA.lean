set_option maxRecDepth 8000 in
theorem c_X9_trait {l : Launch} {d : Dd} {z : Nat} {N : Int} {I : Mm} {a : Int} {k : Int} (hF : Fx I) (ha : shk N a (0, 9)) (hk : 0 ≤ k ∧ k ≤ 5) : Cn l d z yX9_trait cX9_trait 2 (some .int) 0 0 0 0 [vR z a, vI k] N I (pq (trt I a k) N I) := by
  refine Cn.ofA [(vR z a, false), (vI k, false)] [some (vR z a), some (vI k)] RX9 (by decide) rfl ⟨cR z a, rfl, trivial⟩ (Nat.le_of_ble_eq_true rfl) rfl (fun x ed el hx hini => ?_)
  refine V_iload_1 hx dX9_trait_0 ?_
  rcases (show k = 0 ∨ k = 1 ∨ k = 2 ∨ k = 3 ∨ k = 4 ∨ k = 5 ∨ k < 0 ∨ 5 < k by omega) with hsw | hsw | hsw | hsw | hsw | hsw | hsw
  · refine V_tblIn (tgt := 40) hx dX9_trait_1 (by omega) (by omega) (by omega) (by rw [hsw]; rfl) (by decide) ?_
    refine V_aload_0 hx dX9_trait_40 ?_
    refine V_getIx 3 hx hF flX9_31 dX9_trait_41 rfl rfl ha (fun r41 => ?_)
    refine V_ireturn hx dX9_trait_44 (by omega) (by omega) ?_
    exact ⟨by unfold trt; (repeat (first | rw [cif_t (by omega)] | rw [cif_f (by omega)])); all_goals (exfalso; omega), rfl, rfl, trt_r hF a k⟩
  · refine V_tblIn (tgt := 45) hx dX9_trait_1 (by omega) (by omega) (by omega) (by rw [hsw]; rfl) (by decide) ?_
    refine V_aload_0 hx dX9_trait_45 ?_
    refine V_getIx 4 hx hF flX9_34 dX9_trait_46 rfl rfl ha (fun r46 => ?_)
    refine V_ireturn hx dX9_trait_49 (by omega) (by omega) ?_
    exact ⟨by unfold trt; (repeat (first | rw [cif_t (by omega)] | rw [cif_f (by omega)])); all_goals (exfalso; omega), rfl, rfl, trt_r hF a k⟩
  · refine V_tblIn (tgt := 50) hx dX9_trait_1 (by omega) (by omega) (by omega) (by rw [hsw]; rfl) (by decide) ?_
    refine V_aload_0 hx dX9_trait_50 ?_
    refine V_getIx 5 hx hF flX9_37 dX9_trait_51 rfl rfl ha (fun r51 => ?_)
    refine V_ireturn hx dX9_trait_54 (by omega) (by omega) ?_
    exact ⟨by unfold trt; (repeat (first | rw [cif_t (by omega)] | rw [cif_f (by omega)])); all_goals (exfalso; omega), rfl, rfl, trt_r hF a k⟩
  · refine V_tblIn (tgt := 55) hx dX9_trait_1 (by omega) (by omega) (by omega) (by rw [hsw]; rfl) (by decide) ?_
    refine V_aload_0 hx dX9_trait_55 ?_
    refine V_getIx 6 hx hF flX9_40 dX9_trait_56 rfl rfl ha (fun r56 => ?_)
    refine V_ireturn hx dX9_trait_59 (by omega) (by omega) ?_
    exact ⟨by unfold trt; (repeat (first | rw [cif_t (by omega)] | rw [cif_f (by omega)])); all_goals (exfalso; omega), rfl, rfl, trt_r hF a k⟩
  · refine V_tblIn (tgt := 65) hx dX9_trait_1 (by omega) (by omega) (by omega) (by rw [hsw]; rfl) (by decide) ?_
    refine V_aload_0 hx dX9_trait_65 ?_
    refine V_getIx 7 hx hF flX9_46 dX9_trait_66 rfl rfl ha (fun r66 => ?_)
    refine V_ireturn hx dX9_trait_69 (by omega) (by omega) ?_
    exact ⟨by unfold trt; (repeat (first | rw [cif_t (by omega)] | rw [cif_f (by omega)])); all_goals (exfalso; omega), rfl, rfl, trt_r hF a k⟩
  · refine V_tblIn (tgt := 60) hx dX9_trait_1 (by omega) (by omega) (by omega) (by rw [hsw]; rfl) (by decide) ?_
    refine V_aload_0 hx dX9_trait_60 ?_
    refine V_getIx 8 hx hF flX9_53 dX9_trait_61 rfl rfl ha (fun r61 => ?_)
    refine V_ireturn hx dX9_trait_64 (by omega) (by omega) ?_
    exact ⟨by unfold trt; (repeat (first | rw [cif_t (by omega)] | rw [cif_f (by omega)])); all_goals (exfalso; omega), rfl, rfl, trt_r hF a k⟩
  · refine V_tblOut (tgt := 65) hx dX9_trait_1 (by omega) (by omega) (by decide) ?_
    refine V_aload_0 hx dX9_trait_65 ?_
    refine V_getIx 7 hx hF flX9_46 dX9_trait_66 rfl rfl ha (fun r66 => ?_)
    refine V_ireturn hx dX9_trait_69 (by omega) (by omega) ?_
    exact ⟨by unfold trt; (repeat (first | rw [cif_t (by omega)] | rw [cif_f (by omega)])); all_goals (exfalso; omega), rfl, rfl, trt_r hF a k⟩

set_option maxRecDepth 8000 in
theorem c_X9_wasSent {l : Launch} {d : Dd} {z : Nat} {N : Int} {I : Mm} {a : Int}  (hF : Fx I) (ha : shk N a (0, 9)) : Cn l d z yX9_wasSent cX9_wasSent 1 (some .boolean) 0 0 0 0 [vR z a] N I (pv (vB (I a 10 = 1 ∨ I a 10 = 2)) N I) := by
  refine Cn.ofA [(vR z a, false)] [some (vR z a)] RX9 (by decide) rfl ⟨cR z a, trivial⟩ (Nat.le_of_ble_eq_true rfl) rfl (fun x ed el hx hini => ?_)
  refine V_aload_0 hx dX9_wasSent_0 ?_
  refine V_getIx 10 hx hF flX9_9 dX9_wasSent_1 rfl rfl ha (fun r1 => ?_)
  refine V_iconst hx dX9_wasSent_4 ?_
  refine V_icmp_eq (tgt := 16) hx dX9_wasSent_5 (by decide) (by omega) (by omega) (fun h5 => ?_) (fun h5 => ?_)
  · refine V_iconst hx dX9_wasSent_16 ?_
    refine V_goto (tgt := 21) hx dX9_wasSent_17 (by decide) ?_
    refine V_zreturn hx dX9_wasSent_21 (by first | omega | exact cif01 _) (by omega) (by omega) ?_
    first | exact ⟨by rw [vB_t (by omega)], rfl, rfl⟩ | exact ⟨by rw [vB_f (by omega)], rfl, rfl⟩
  · refine V_aload_0 hx dX9_wasSent_8 ?_
    refine V_getIx 10 hx hF flX9_9 dX9_wasSent_9 rfl rfl ha (fun r9 => ?_)
    refine V_iconst hx dX9_wasSent_12 ?_
    refine V_icmp_ne (tgt := 20) hx dX9_wasSent_13 (by decide) (by omega) (by omega) (fun h13 => ?_) (fun h13 => ?_)
    · refine V_iconst hx dX9_wasSent_20 ?_
      refine V_zreturn hx dX9_wasSent_21 (by first | omega | exact cif01 _) (by omega) (by omega) ?_
      first | exact ⟨by rw [vB_t (by omega)], rfl, rfl⟩ | exact ⟨by rw [vB_f (by omega)], rfl, rfl⟩
    · refine V_iconst hx dX9_wasSent_16 ?_
      refine V_goto (tgt := 21) hx dX9_wasSent_17 (by decide) ?_
      refine V_zreturn hx dX9_wasSent_21 (by first | omega | exact cif01 _) (by omega) (by omega) ?_
      first | exact ⟨by rw [vB_t (by omega)], rfl, rfl⟩ | exact ⟨by rw [vB_f (by omega)], rfl, rfl⟩

set_option maxRecDepth 8000 in
theorem c_X9_isOpen {l : Launch} {d : Dd} {z : Nat} {N : Int} {I : Mm} {a : Int} {t : Int} (hF : Fx I) (ha : shk N a (0, 9)) (ht : -2147483648 ≤ t ∧ t ≤ 2147483647) : Cn l d z yX9_isOpen cX9_isOpen 2 (some .boolean) 0 0 0 0 [vR z a, vI t] N I (pv (vB (I a 9 ≤ t)) N I) := by
  refine Cn.ofA [(vR z a, false), (vI t, false)] [some (vR z a), some (vI t)] RX9 (by decide) rfl ⟨cR z a, rfl, trivial⟩ (Nat.le_of_ble_eq_true rfl) rfl (fun x ed el hx hini => ?_)
  refine V_aload_0 hx dX9_isOpen_0 ?_
  refine V_getIx 9 hx hF flX9_60 dX9_isOpen_1 rfl rfl ha (fun r1 => ?_)
  refine V_iload_1 hx dX9_isOpen_4 ?_
  refine V_icmp_gt (tgt := 12) hx dX9_isOpen_5 (by decide) (by omega) (by omega) (fun h5 => ?_) (fun h5 => ?_)
  · refine V_iconst hx dX9_isOpen_12 ?_
    refine V_zreturn hx dX9_isOpen_13 (by first | omega | exact cif01 _) (by omega) (by omega) ?_
    first | exact ⟨by rw [vB_t (by omega)], rfl, rfl⟩ | exact ⟨by rw [vB_f (by omega)], rfl, rfl⟩
  · refine V_iconst hx dX9_isOpen_8 ?_
    refine V_goto (tgt := 13) hx dX9_isOpen_9 (by decide) ?_
    refine V_zreturn hx dX9_isOpen_13 (by first | omega | exact cif01 _) (by omega) (by omega) ?_
    first | exact ⟨by rw [vB_t (by omega)], rfl, rfl⟩ | exact ⟨by rw [vB_f (by omega)], rfl, rfl⟩

set_option maxRecDepth 8000 in
theorem c_X9_lateAt {l : Launch} {d : Dd} {z : Nat} {N : Int} {I : Mm} {a : Int} {t : Int} (hF : Fx I) (ha : shk N a (0, 9)) : Cn l d z yX9_lateAt cX9_lateAt 2 (some .int) 0 0 0 0 [vR z a, vI t] N I (pv (vI (t - I a 6)) N I) := by
  refine Cn.ofA [(vR z a, false), (vI t, false)] [some (vR z a), some (vI t)] RX9 (by decide) rfl ⟨cR z a, rfl, trivial⟩ (Nat.le_of_ble_eq_true rfl) rfl (fun x ed el hx hini => ?_)
  refine V_iload_1 hx dX9_lateAt_0 ?_
  refine V_aload_0 hx dX9_lateAt_1 ?_
  refine V_getIx 6 hx hF flX9_40 dX9_lateAt_2 rfl rfl ha (fun r2 => ?_)
  refine V_isub hx dX9_lateAt_5 ?_
  refine V_ireturn hx dX9_lateAt_6 (by omega) (by omega) ?_
  exact ⟨rfl, rfl, rfl⟩

set_option maxRecDepth 8000 in
theorem c_X7_change {l : Launch} {d : Dd} {z : Nat} {N : Int} {I : Mm} {a : Int} {k v : Int} (hF : Fx I) (hs : StC I N a) (hk : 0 ≤ k ∧ k ≤ 6) (hv : -2147483648 ≤ v ∧ v ≤ 2147483647) : Cn l d z yX7_change cX7_change 4 (some .int) 0 0 0 0 [vR z a, vI k, vI v] N I (pI (fun r N' I' => r = I (a + 1) k ∧ I' = up I (a + 1) k v ∧ N' = N ∧ Fx I')) := by
  refine Cn.ofA [(vR z a, false), (vI k, false), (vI v, false)] [some (vR z a), some (vI k), some (vI v), none] RX7 (by decide) rfl ⟨cR z a, rfl, rfl, trivial⟩ (Nat.le_of_ble_eq_true rfl) rfl (fun x ed el hx hini => ?_)
  have hbd := hs.2.2.2.1
  refine V_iload_1 hx dX7_change_0 ?_
  refine V_if_lt (tgt := 13) hx dX7_change_1 (by decide) (by omega) (fun h1 => ?_) (fun h1 => ?_)
  · exfalso; omega
  · refine V_iload_1 hx dX7_change_4 ?_
    refine V_aload_0 hx dX7_change_5 ?_
    refine V_getRe hx flX7_9 dX7_change_6 rfl hs.1 hs.2.1 ?_
    refine V_alen hx dX7_change_9 hs.2.2.1 (by unfold tyK; omega) ?_
    refine V_icmp_lt (tgt := 15) hx dX7_change_10 (by decide) (by omega) (by omega) (fun h10 => ?_) (fun h10 => ?_)
    · refine V_aload_0 hx dX7_change_15 ?_
      refine V_getRe hx flX7_9 dX7_change_16 rfl hs.1 hs.2.1 ?_
      refine V_iload_1 hx dX7_change_19 ?_
      refine V_ialoadx hx hF dX7_change_20 hs.2.2.1 (by decide) (by omega) (fun r20 => ?_)
      refine V_istore_3 hx (by first | exact nc_I | exact nc_R | exact nc_n) dX7_change_21 ?_
      refine V_aload_0 hx dX7_change_22 ?_
      refine V_getRe hx flX7_9 dX7_change_23 rfl hs.1 hs.2.1 ?_
      refine V_iload_1 hx dX7_change_26 ?_
      refine V_iload_2 hx dX7_change_27 ?_
      refine V_iastorex hx hF dX7_change_28 hs.2.2.1 (by decide) (by omega) (fx_none hs.2.2.2.2.2 _) (by omega) (by omega) (fun hF => ?_)
      refine V_iload_3 hx dX7_change_29 ?_
      refine V_ireturn hx dX7_change_30 (by omega) (by omega) ?_
      exact ⟨_, rfl, rfl, rfl, rfl, hF⟩
    · exfalso; omega

set_option maxRecDepth 8000 in
theorem c_X7_gateAt {l : Launch} {d : Dd} {z : Nat} {N : Int} {I : Mm} {a : Int} {t : Int} (hF : Fx I) (hs : StC I N a) (ht : -2147483648 ≤ t ∧ t ≤ 2147483647) (hg : -2147483648 ≤ I a 3 + I (a + 1) 3 ∧ I a 3 + I (a + 1) 3 ≤ 2147483647) : Cn l d z yX7_gateAt cX7_gateAt 2 (some .int) 1 21 0 0 [vR z a, vI t] N I (pq (cif (I a 4 = 0) t (max t (I a 3 + I (a + 1) 3))) N I) := by
  refine Cn.ofA [(vR z a, false), (vI t, false)] [some (vR z a), some (vI t)] RX7 (by decide) rfl ⟨cR z a, rfl, trivial⟩ (Nat.le_of_ble_eq_true rfl) rfl (fun x ed el hx hini => ?_)
  have hbd := hs.2.2.2.1
  refine V_aload_0 hx dX7_gateAt_0 ?_
  refine V_getIx 4 hx hF flX7_19 dX7_gateAt_1 rfl rfl hs.1 (fun r1 => ?_)
  refine V_if_ne (tgt := 11) hx dX7_gateAt_4 (by decide) (by omega) (fun h4 => ?_) (fun h4 => ?_)
  · refine V_iload_1 hx dX7_gateAt_11 ?_
    refine V_aload_0 hx dX7_gateAt_12 ?_
    refine V_getIx 3 hx hF flX7_22 dX7_gateAt_13 rfl rfl hs.1 (fun r13 => ?_)
    refine V_aload_0 hx dX7_gateAt_16 ?_
    refine V_getRe hx flX7_9 dX7_gateAt_17 rfl hs.1 hs.2.1 ?_
    refine V_iconst hx dX7_gateAt_20 ?_
    refine V_ialoadx hx hF dX7_gateAt_21 hs.2.2.1 (by decide) (by omega) (fun r21 => ?_)
    refine V_iadd hx dX7_gateAt_22 ?_
    refine V_s2Q hx el ed (c_J9_max_7cf53 (by omega) (by omega)) myJ9_max_7cf53 mlX7_25 dX7_gateAt_23 (by decide) (by omega) rfl (by first | exact Nat.le_of_ble_eq_true rfl | simp [vI, vL, vR_cat, Value.category]) (fun r23 => ?_)
    refine V_ireturn hx dX7_gateAt_26 (by omega) (by omega) ?_
    exact ⟨by first | rw [cif_t (by omega)] | rw [cif_f (by omega)], rfl, rfl, by first | (rw [cif_t (by omega)]; omega) | (rw [cif_f (by omega)]; omega)⟩
  · refine V_iload_1 hx dX7_gateAt_7 ?_
    refine V_goto (tgt := 26) hx dX7_gateAt_8 (by decide) ?_
    refine V_ireturn hx dX7_gateAt_26 (by omega) (by omega) ?_
    exact ⟨by first | rw [cif_t (by omega)] | rw [cif_f (by omega)], rfl, rfl, by first | (rw [cif_t (by omega)]; omega) | (rw [cif_f (by omega)]; omega)⟩

set_option maxRecDepth 8000 in
theorem c_X7_endFor {l : Launch} {d : Dd} {z : Nat} {N : Int} {I : Mm} {a : Int} {ln vt : Int} (hF : Fx I) (hs : StC I N a) (hl : 0 ≤ ln ∧ ln ≤ 99) (hv : 0 ≤ vt ∧ vt ≤ 10000000) (h2 : 0 ≤ I a 2 ∧ I a 2 ≤ 10000000) (hsh : 1 ≤ I (a + 1) 1 ∧ I (a + 1) 1 ≤ 16) : Cn l d z yX7_endFor cX7_endFor 4 (some .int) 1 21 0 0 [vR z a, vI ln, vI vt] N I (pq (max (I a 2) vt + 16 * ln / I (a + 1) 1) N I) := by
  refine Cn.ofA [(vR z a, false), (vI ln, false), (vI vt, false)] [some (vR z a), some (vI ln), some (vI vt), none] RX7 (by decide) rfl ⟨cR z a, rfl, rfl, trivial⟩ (Nat.le_of_ble_eq_true rfl) rfl (fun x ed el hx hini => ?_)
  have hbd := hs.2.2.2.1
  have hd1 : 0 ≤ 16 * ln / I (a + 1) 1 := Int.ediv_nonneg (by omega) (by omega)
  have hd2 : 16 * ln / I (a + 1) 1 ≤ 16 * ln := Int.ediv_le_self _ (by omega)
  refine V_aload_0 hx dX7_endFor_0 ?_
  refine V_getRe hx flX7_9 dX7_endFor_1 rfl hs.1 hs.2.1 ?_
  refine V_iconst hx dX7_endFor_4 ?_
  refine V_ialoadx hx hF dX7_endFor_5 hs.2.2.1 (by decide) (by omega) (fun r5 => ?_)
  refine V_istore_3 hx (by first | exact nc_I | exact nc_R | exact nc_n) dX7_endFor_6 ?_
  refine V_aload_0 hx dX7_endFor_7 ?_
  refine V_getIx 2 hx hF flX7_31 dX7_endFor_8 rfl rfl hs.1 (fun r8 => ?_)
  refine V_iload_2 hx dX7_endFor_11 ?_
  refine V_s2Q hx el ed (c_J9_max_7cf53 (by omega) (by omega)) myJ9_max_7cf53 mlX7_25 dX7_endFor_12 (by decide) (by omega) rfl (by first | exact Nat.le_of_ble_eq_true rfl | simp [vI, vL, vR_cat, Value.category]) (fun r12 => ?_)
  refine V_iload_3 hx dX7_endFor_15 ?_
  refine V_if_le (tgt := 28) hx dX7_endFor_16 (by decide) (by omega) (fun h16 => ?_) (fun h16 => ?_)
  · exfalso; omega
  · refine V_bipush hx dX7_endFor_19 (by decide) ?_
    refine V_iload_1 hx dX7_endFor_21 ?_
    refine V_imul hx dX7_endFor_22 ?_
    refine V_iload_3 hx dX7_endFor_23 ?_
    refine V_idiv hx dX7_endFor_24 (by omega) (by omega) ?_
    refine V_goto (tgt := 29) hx dX7_endFor_25 (by decide) ?_
    refine V_iadd hx dX7_endFor_29 ?_
    refine V_ireturn hx dX7_endFor_30 (by omega) (by omega) ?_
    exact ⟨rfl, rfl, rfl, by omega⟩

set_option maxRecDepth 8000 in
theorem c_X7_follow {l : Launch} {d : Dd} {z : Nat} {N : Int} {I : Mm} {a : Int} {b : Int} (hF : Fx I) (hs : StC I N a) (hb : shk N b (0, 9)) (hw : 67 ≤ b) (hc : -2147483648 ≤ I a 4 + 1 ∧ I a 4 + 1 ≤ 2147483647) : Cn l d z yX7_follow cX7_follow 2 none 0 0 0 0 [vR z a, vR z b] N I (pN (fun N' I' => N' = N ∧ I' = up (up (up I a 2 (I b 8)) a 3 (I b 9)) a 4 (I a 4 + 1) ∧ Fx I')) := by
  refine Cn.ofA [(vR z a, false), (vR z b, false)] [some (vR z a), some (vR z b)] RX7 (by decide) rfl ⟨cR z a, cR z b, trivial⟩ (Nat.le_of_ble_eq_true rfl) rfl (fun x ed el hx hini => ?_)
  have hbd := hs.2.2.2.1
  refine V_aload_0 hx dX7_follow_0 ?_
  refine V_aload_1 hx dX7_follow_1 ?_
  refine V_getIx 8 hx hF flX7_34 dX7_follow_2 rfl rfl hb (fun r2 => ?_)
  refine V_putIx 2 hx hF flX7_31 dX7_follow_5 rfl rfl (fun r h => by cases h; rfl) hs.1 (hs.2.2.2.2.1 _ (by decide)) (by omega) (Or.inl (by omega)) (fun hF => ?_)
  have e1 : up I a 2 (I b 8) b 9 = I b 9 := up_c (by omega)
  refine V_aload_0 hx dX7_follow_8 ?_
  refine V_aload_1 hx dX7_follow_9 ?_
  refine V_getIx 9 hx hF flX7_39 dX7_follow_10 rfl rfl hb (fun r10 => ?_)
  (try simp only [up_s, up_c, up_row, up_k, ne_eq, Int.reduceEq, not_false_eq_true] at r10 ⊢)
  refine V_putIx 3 hx hF flX7_22 dX7_follow_13 rfl rfl (fun r h => by cases h; rfl) hs.1 (hs.2.2.2.2.1 _ (by decide)) (by omega) (Or.inl (by omega)) (fun hF => ?_)
  refine V_aload_0 hx dX7_follow_16 ?_
  refine V_dupR hx dX7_follow_17 ?_
  refine V_getIx 4 hx hF flX7_19 dX7_follow_18 rfl rfl hs.1 (fun r18 => ?_)
  (try simp only [up_s, up_c, up_row, up_k, ne_eq, Int.reduceEq, not_false_eq_true] at r18 ⊢)
  refine V_iconst hx dX7_follow_21 ?_
  refine V_iadd hx dX7_follow_22 ?_
  have e2 : up (up I a 2 (I b 8)) a 3 (up I a 2 (I b 8) b 9) a 4 = I a 4 := by rw [up_k (by decide), up_k (by decide)]
  rw [e1] at *
  refine V_putIx 4 hx hF flX7_19 dX7_follow_23 rfl rfl (fun r h => by cases h; rfl) hs.1 (hs.2.2.2.2.1 _ (by decide)) (by omega) (Or.inl (by omega)) (fun hF => ?_)
  refine V_return hx dX7_follow_26 (by omega) (by omega) ?_
  exact ⟨rfl, rfl, rfl, hF⟩

set_option maxRecDepth 8000 in
theorem c_X4_rankOf7 {l : Launch} {d : Dd} {z : Nat} {N : Int} {I : Mm} {a : Int} (hN : 67 ≤ N) (hF : Fx I) (ha : shk N a (0, 9)) : Cn l d z yX4_rankOf cX4_rankOf 5 (some .long) 1 21 0 0 [vR z 7, vR z a] N I (pk (crk I 8 a) N I) := by
  refine Cn.ofA [(vR z 7, false), (vR z a, false)] [some (vR z 7), some (vR z a), none, none, none] RX4 (by decide) rfl ⟨cR z 7, cR z a, trivial⟩ (Nat.le_of_ble_eq_true rfl) rfl (fun x ed el hx hini => ?_)
  refine V_lconst (v := 0) hx dX4_rankOf_0 (by decide) ?_
  refine V_lstore_2 hx (by first | exact nc_I | exact nc_R | exact nc_n) dX4_rankOf_1 ?_
  refine V_iconst hx dX4_rankOf_2 ?_
  refine V_istore_4 hx (by first | exact nc_I | exact nc_R | exact nc_n) dX4_rankOf_3 ?_
  refine loop_fld (α := Int) (fun acc i => acc + I 8 i * trt I a i) 0 6 (by omega) (fun i acc => V x z _ N I 0 0 5 [some (vR z 7), some (vR z a), some (vL acc), none, some (vI i)] []) ?_ ?_
  · refine V_iload_4 hx dX4_rankOf_5 ?_
    refine V_bipush hx dX4_rankOf_7 (by decide) ?_
    refine V_icmp_ge (tgt := 37) hx dX4_rankOf_9 (by decide) (by omega) (by omega) (fun h9 => ?_) (fun h9 => ?_)
    · refine V_lload_2 hx dX4_rankOf_37 ?_
      refine V_lreturn hx dX4_rankOf_38 (by omega) (by omega) ?_
      exact ⟨rfl, rfl, rfl, by have := crk_b hF (c := 8) (by decide) a; omega⟩
    · exfalso; omega
  · intro i hi0 hi1 ih
    refine V_iload_4 hx dX4_rankOf_5 ?_
    refine V_bipush hx dX4_rankOf_7 (by decide) ?_
    refine V_icmp_ge (tgt := 37) hx dX4_rankOf_9 (by decide) (by omega) (by omega) (fun h9 => ?_) (fun h9 => ?_)
    · exfalso; omega
    · refine V_lload_2 hx dX4_rankOf_12 ?_
      refine V_aload_0 hx dX4_rankOf_13 ?_
      refine V_getRe hx flX4_9 dX4_rankOf_14 rfl (k7 hN) (hF.1 7 0 8 rfl) ?_
      refine V_iload_4 hx dX4_rankOf_17 ?_
      refine V_ialoadx hx hF dX4_rankOf_19 (k8 hN) (by decide) (by omega) (fun r19 => ?_)
      refine V_i2l hx dX4_rankOf_20 (by omega) ?_
      refine V_aload_1 hx dX4_rankOf_21 ?_
      refine V_iload_4 hx dX4_rankOf_22 ?_
      refine V_v1Q hx el ed (c_X9_trait hF (by assumption) (by omega)) myX9_trait mlX4_15 dX4_rankOf_24 ⟨_, rfl, rfl⟩ ha (by decide) (by omega) rfl (by first | exact Nat.le_of_ble_eq_true rfl | simp [vI, vL, vR_cat, Value.category]) (fun r24 => ?_)
      refine V_i2l hx dX4_rankOf_27 (by omega) ?_
      refine V_lmul hx dX4_rankOf_28 ?_
      refine V_ladd hx dX4_rankOf_29 ?_
      refine V_lstore_2 hx (by first | exact nc_I | exact nc_R | exact nc_n) dX4_rankOf_30 ?_
      refine V_iinc_4 hx (by first | exact nc_I | exact nc_R | exact nc_n) dX4_rankOf_31 ?_
      refine V_goto (tgt := 5) hx dX4_rankOf_34 (by decide) ?_
      first | exact ih | (rw [cif_t (by first | omega | simp_all)] at ih; exact ih) | (rw [cif_f (by first | omega | simp_all)] at ih; exact ih)

set_option maxRecDepth 8000 in
theorem c_X4_become7 {l : Launch} {d : Dd} {z : Nat} {N : Int} {I : Mm} (hN : 67 ≤ N) (hF : Fx I) (hwb : ∀ q : Int, -600 ≤ I 6 q ∧ I 6 q ≤ 600) : Cn l d z yX4_become cX4_become 3 none 0 0 0 0 [vR z 7, vR z 6] N I (pN (fun N' I' => N' = N ∧ I' = fld (fun m i => up m 8 i (I 6 i)) I 6 ∧ Fx I')) := by
  refine Cn.ofA [(vR z 7, false), (vR z 6, false)] [some (vR z 7), some (vR z 6), none] RX4 (by decide) rfl ⟨cR z 7, cR z 6, trivial⟩ (Nat.le_of_ble_eq_true rfl) rfl (fun x ed el hx hini => ?_)
  refine V_iconst hx dX4_become_0 ?_
  refine V_istore_2 hx (by first | exact nc_I | exact nc_R | exact nc_n) dX4_become_1 ?_
  refine loop_inv (α := Mm) 0 6 (by decide) (fun i M => M = fld (fun m i => up m 8 i (I 6 i)) I i.toNat ∧ Fx M ∧ M 6 = I 6) (fun i M => V x z _ N M 0 0 2 [some (vR z 7), some (vR z 6), some (vI i)] []) ?_ ?_ _ ⟨rfl, hF, rfl⟩
  · rintro M ⟨eM, hF, h6⟩
    refine V_iload_2 hx dX4_become_2 ?_
    refine V_bipush hx dX4_become_3 (by decide) ?_
    refine V_icmp_ge (tgt := 29) hx dX4_become_5 (by decide) (by omega) (by omega) (fun h5 => ?_) (fun h5 => ?_)
    · refine V_return hx dX4_become_29 (by omega) (by omega) ?_
      exact ⟨rfl, rfl, eM, hF⟩
    · exfalso; omega
  · rintro i M hi0 hi1 ⟨eM, hF, h6⟩ ih
    refine V_iload_2 hx dX4_become_2 ?_
    refine V_bipush hx dX4_become_3 (by decide) ?_
    refine V_icmp_ge (tgt := 29) hx dX4_become_5 (by decide) (by omega) (by omega) (fun h5 => ?_) (fun h5 => ?_)
    · exfalso; omega
    · have hwt : -600 ≤ M 6 i ∧ M 6 i ≤ 600 := by rw [h6]; exact hwb i
      refine V_iload_2 hx dX4_become_8 ?_
      refine V_aload_1 hx dX4_become_9 ?_
      refine V_alen hx dX4_become_10 (k6 hN) (by unfold tyK; omega) ?_
      refine V_icmp_ge (tgt := 29) hx dX4_become_11 (by decide) (by omega) (by omega) (fun h11 => ?_) (fun h11 => ?_)
      · exfalso; omega
      · refine V_aload_0 hx dX4_become_14 ?_
        refine V_getRe hx flX4_9 dX4_become_15 rfl (k7 hN) (hF.1 7 0 8 rfl) ?_
        refine V_iload_2 hx dX4_become_18 ?_
        refine V_aload_1 hx dX4_become_19 ?_
        refine V_iload_2 hx dX4_become_20 ?_
        refine V_ialoadx hx hF dX4_become_21 (k6 hN) (by decide) (by omega) (fun r21 => ?_)
        refine V_iastorex hx hF dX4_become_22 (k8 hN) (by decide) (by omega) (fx_none rfl _) (by omega) (by omega) (fun hF => ?_)
        refine V_iinc_2 hx (by first | exact nc_I | exact nc_R | exact nc_n) dX4_become_23 ?_
        refine V_goto (tgt := 2) hx dX4_become_26 (by decide) ?_
        exact ih _ ⟨by rw [fld_s _ _ hi0, ← eM, ← h6], hF, by rw [up_row (by decide)]; exact h6⟩

set_option maxRecDepth 8000 in
theorem c_X4_rankOf9 {l : Launch} {d : Dd} {z : Nat} {N : Int} {I : Mm} {a : Int} (hN : 67 ≤ N) (hF : Fx I) (ha : shk N a (0, 9)) : Cn l d z yX4_rankOf cX4_rankOf 5 (some .long) 1 21 0 0 [vR z 9, vR z a] N I (pk (crk I 10 a) N I) := by
  refine Cn.ofA [(vR z 9, false), (vR z a, false)] [some (vR z 9), some (vR z a), none, none, none] RX4 (by decide) rfl ⟨cR z 9, cR z a, trivial⟩ (Nat.le_of_ble_eq_true rfl) rfl (fun x ed el hx hini => ?_)
  refine V_lconst (v := 0) hx dX4_rankOf_0 (by decide) ?_
  refine V_lstore_2 hx (by first | exact nc_I | exact nc_R | exact nc_n) dX4_rankOf_1 ?_
  refine V_iconst hx dX4_rankOf_2 ?_
  refine V_istore_4 hx (by first | exact nc_I | exact nc_R | exact nc_n) dX4_rankOf_3 ?_
  refine loop_fld (α := Int) (fun acc i => acc + I 10 i * trt I a i) 0 6 (by omega) (fun i acc => V x z _ N I 0 0 5 [some (vR z 9), some (vR z a), some (vL acc), none, some (vI i)] []) ?_ ?_
  · refine V_iload_4 hx dX4_rankOf_5 ?_
    refine V_bipush hx dX4_rankOf_7 (by decide) ?_
    refine V_icmp_ge (tgt := 37) hx dX4_rankOf_9 (by decide) (by omega) (by omega) (fun h9 => ?_) (fun h9 => ?_)
    · refine V_lload_2 hx dX4_rankOf_37 ?_
      refine V_lreturn hx dX4_rankOf_38 (by omega) (by omega) ?_
      exact ⟨rfl, rfl, rfl, by have := crk_b hF (c := 10) (by decide) a; omega⟩
    · exfalso; omega
  · intro i hi0 hi1 ih
    refine V_iload_4 hx dX4_rankOf_5 ?_
    refine V_bipush hx dX4_rankOf_7 (by decide) ?_
    refine V_icmp_ge (tgt := 37) hx dX4_rankOf_9 (by decide) (by omega) (by omega) (fun h9 => ?_) (fun h9 => ?_)
    · exfalso; omega
    · refine V_lload_2 hx dX4_rankOf_12 ?_
      refine V_aload_0 hx dX4_rankOf_13 ?_
      refine V_getRe hx flX4_9 dX4_rankOf_14 rfl (k9 hN) (hF.1 9 0 10 rfl) ?_
      refine V_iload_4 hx dX4_rankOf_17 ?_
      refine V_ialoadx hx hF dX4_rankOf_19 (k10 hN) (by decide) (by omega) (fun r19 => ?_)
      refine V_i2l hx dX4_rankOf_20 (by omega) ?_
      refine V_aload_1 hx dX4_rankOf_21 ?_
      refine V_iload_4 hx dX4_rankOf_22 ?_
      refine V_v1Q hx el ed (c_X9_trait hF (by assumption) (by omega)) myX9_trait mlX4_15 dX4_rankOf_24 ⟨_, rfl, rfl⟩ ha (by decide) (by omega) rfl (by first | exact Nat.le_of_ble_eq_true rfl | simp [vI, vL, vR_cat, Value.category]) (fun r24 => ?_)
      refine V_i2l hx dX4_rankOf_27 (by omega) ?_
      refine V_lmul hx dX4_rankOf_28 ?_
      refine V_ladd hx dX4_rankOf_29 ?_
      refine V_lstore_2 hx (by first | exact nc_I | exact nc_R | exact nc_n) dX4_rankOf_30 ?_
      refine V_iinc_4 hx (by first | exact nc_I | exact nc_R | exact nc_n) dX4_rankOf_31 ?_
      refine V_goto (tgt := 5) hx dX4_rankOf_34 (by decide) ?_
      first | exact ih | (rw [cif_t (by first | omega | simp_all)] at ih; exact ih) | (rw [cif_f (by first | omega | simp_all)] at ih; exact ih)

set_option maxRecDepth 8000 in
theorem c_X4_become9 {l : Launch} {d : Dd} {z : Nat} {N : Int} {I : Mm} (hN : 67 ≤ N) (hF : Fx I) (hwb : ∀ q : Int, -600 ≤ I 6 q ∧ I 6 q ≤ 600) : Cn l d z yX4_become cX4_become 3 none 0 0 0 0 [vR z 9, vR z 6] N I (pN (fun N' I' => N' = N ∧ I' = fld (fun m i => up m 10 i (I 6 i)) I 6 ∧ Fx I')) := by
  refine Cn.ofA [(vR z 9, false), (vR z 6, false)] [some (vR z 9), some (vR z 6), none] RX4 (by decide) rfl ⟨cR z 9, cR z 6, trivial⟩ (Nat.le_of_ble_eq_true rfl) rfl (fun x ed el hx hini => ?_)
  refine V_iconst hx dX4_become_0 ?_
  refine V_istore_2 hx (by first | exact nc_I | exact nc_R | exact nc_n) dX4_become_1 ?_
  refine loop_inv (α := Mm) 0 6 (by decide) (fun i M => M = fld (fun m i => up m 10 i (I 6 i)) I i.toNat ∧ Fx M ∧ M 6 = I 6) (fun i M => V x z _ N M 0 0 2 [some (vR z 9), some (vR z 6), some (vI i)] []) ?_ ?_ _ ⟨rfl, hF, rfl⟩
  · rintro M ⟨eM, hF, h6⟩
    refine V_iload_2 hx dX4_become_2 ?_
    refine V_bipush hx dX4_become_3 (by decide) ?_
    refine V_icmp_ge (tgt := 29) hx dX4_become_5 (by decide) (by omega) (by omega) (fun h5 => ?_) (fun h5 => ?_)
    · refine V_return hx dX4_become_29 (by omega) (by omega) ?_
      exact ⟨rfl, rfl, eM, hF⟩
    · exfalso; omega
  · rintro i M hi0 hi1 ⟨eM, hF, h6⟩ ih
    refine V_iload_2 hx dX4_become_2 ?_
    refine V_bipush hx dX4_become_3 (by decide) ?_
    refine V_icmp_ge (tgt := 29) hx dX4_become_5 (by decide) (by omega) (by omega) (fun h5 => ?_) (fun h5 => ?_)
    · exfalso; omega
    · have hwt : -600 ≤ M 6 i ∧ M 6 i ≤ 600 := by rw [h6]; exact hwb i
      refine V_iload_2 hx dX4_become_8 ?_
      refine V_aload_1 hx dX4_become_9 ?_
      refine V_alen hx dX4_become_10 (k6 hN) (by unfold tyK; omega) ?_
      refine V_icmp_ge (tgt := 29) hx dX4_become_11 (by decide) (by omega) (by omega) (fun h11 => ?_) (fun h11 => ?_)
      · exfalso; omega
      · refine V_aload_0 hx dX4_become_14 ?_
        refine V_getRe hx flX4_9 dX4_become_15 rfl (k9 hN) (hF.1 9 0 10 rfl) ?_
        refine V_iload_2 hx dX4_become_18 ?_
        refine V_aload_1 hx dX4_become_19 ?_
        refine V_iload_2 hx dX4_become_20 ?_
        refine V_ialoadx hx hF dX4_become_21 (k6 hN) (by decide) (by omega) (fun r21 => ?_)
        refine V_iastorex hx hF dX4_become_22 (k10 hN) (by decide) (by omega) (fx_none rfl _) (by omega) (by omega) (fun hF => ?_)
        refine V_iinc_2 hx (by first | exact nc_I | exact nc_R | exact nc_n) dX4_become_23 ?_
        refine V_goto (tgt := 2) hx dX4_become_26 (by decide) ?_
        exact ih _ ⟨by rw [fld_s _ _ hi0, ← eM, ← h6], hF, by rw [up_row (by decide)]; exact h6⟩

