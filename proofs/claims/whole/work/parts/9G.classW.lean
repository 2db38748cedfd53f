theorem shk_s {N a : Int} {s : Nat × Nat} (h : shk N a s) : shk (N + 1) a s := ⟨h.1, by have := h.2.1; omega, h.2.2⟩
theorem shk_n {N : Int} {s : Nat × Nat} (h0 : 0 ≤ N) (h : shp N.toNat = s) : shk (N + 1) N s := ⟨h0, by omega, h⟩
theorem V_n0Nx {x : Cx} {z : Nat} {own : String} {cc : ByteArray} {nL : Nat} {ret : Option FieldType} {fr lo mc ms : Nat} {Po : Pst} {N : Int} {I : Mm} {k n pc : Nat} {L : List (Option Value)} {st : List Value} (J : Mm) (e : I = J) (kk : V x z Po N J k n pc L st) : V x z Po N I k n pc L st := e ▸ kk

set_option maxRecDepth 8000 in
theorem c_X8_init {l : Launch} {d : Dd} {z : Nat} {N : Int} {I : Mm} {a : Int} (h0 : 0 ≤ N) (ha : shk N a (0, 8)) (hs : shp N.toNat = (2, 40)) : Cn l d z yX8_init cX8_init 1 none 1 20 1 40 [vR z a] N I (pN (fun N' I' => N' = N + 1 ∧ I' = up (upR I N (fun _ => 0)) a 0 N)) := by
  refine Cn.ofA [(vR z a, false)] [some (vR z a)] RX8 (by decide) rfl ⟨cR z a, trivial⟩ (Nat.le_of_ble_eq_true rfl) rfl (fun x ed el hx hini => ?_)
  have ha0 := ha.1
  refine V_aload_0 hx dX8_init_0 ?_
  refine V_objInit hx mlX8_3 dX8_init_1 (by omega) (by decide) rfl (by first | exact Nat.le_of_ble_eq_true rfl | simp [vI, vL, vR_cat, Value.category]) ?_
  refine V_aload_0 hx dX8_init_4 ?_
  refine V_bipush hx dX8_init_5 (by decide) ?_
  refine V_newB hx (m := 40) dX8_init_7 (by omega) hs (by decide) (by omega) ?_
  refine V_putRFg 0 hx flX8_9 dX8_init_9 rfl (Or.inr ⟨_, rfl⟩) (fun r h => by cases h; exact ⟨rfl, rfl⟩) (hini rfl) (shk_s ha) ?_
  refine V_return hx dX8_init_12 (by omega) (by omega) ?_
  exact ⟨rfl, by omega, rfl⟩

set_option maxRecDepth 8000 in
theorem c_X0_init {l : Launch} {d : Dd} {z : Nat} {N : Int} {I : Mm} {a : Int} (h0 : 0 ≤ N) (ha : shk N a (0, 0)) (hs : shp N.toNat = (1, 24)) (hs1 : shp (N + 1).toNat = (1, 1024)) (hs2 : shp (N + 1 + 1).toNat = (1, 32)) : Cn l d z yX0_init cX0_init 1 none 1 20 3 1080 [vR z a] N I (pN (fun N' I' => N' = N + 3 ∧ I' = up (upR (up (upR (up (upR I N (fun _ => 0)) a 0 N) (N + 1) (fun _ => 0)) a 2 (N + 1)) (N + 1 + 1) (fun _ => 0)) a 3 (N + 1 + 1))) := by
  refine Cn.ofA [(vR z a, false)] [some (vR z a)] RX0 (by decide) rfl ⟨cR z a, trivial⟩ (Nat.le_of_ble_eq_true rfl) rfl (fun x ed el hx hini => ?_)
  have ha0 := ha.1
  refine V_aload_0 hx dX0_init_0 ?_
  refine V_objInit hx mlX0_3 dX0_init_1 (by omega) (by decide) rfl (by first | exact Nat.le_of_ble_eq_true rfl | simp [vI, vL, vR_cat, Value.category]) ?_
  refine V_aload_0 hx dX0_init_4 ?_
  refine V_bipush hx dX0_init_5 (by decide) ?_
  refine V_newI hx (m := 24) dX0_init_7 (by omega) hs (by decide) (by omega) ?_
  refine V_putRFg 0 hx flX0_9 dX0_init_9 rfl (Or.inr ⟨_, rfl⟩) (fun r h => by cases h; exact ⟨rfl, rfl⟩) (hini rfl) (shk_s ha) ?_
  refine V_aload_0 hx dX0_init_12 ?_
  refine V_sipush hx dX0_init_13 (by decide) ?_
  refine V_newI hx (m := 1024) dX0_init_16 (by omega) hs1 (by decide) (by omega) ?_
  refine V_putRFg 2 hx flX0_15 dX0_init_18 rfl (Or.inr ⟨_, rfl⟩) (fun r h => by cases h; exact ⟨rfl, rfl⟩) (hini rfl) (shk_s (shk_s ha)) ?_
  refine V_aload_0 hx dX0_init_21 ?_
  refine V_bipush hx dX0_init_22 (by decide) ?_
  refine V_newI hx (m := 32) dX0_init_24 (by omega) hs2 (by decide) (by omega) ?_
  refine V_putRFg 3 hx flX0_18 dX0_init_26 rfl (Or.inr ⟨_, rfl⟩) (fun r h => by cases h; exact ⟨rfl, rfl⟩) (hini rfl) (shk_s (shk_s (shk_s ha))) ?_
  refine V_return hx dX0_init_29 (by omega) (by omega) ?_
  exact ⟨rfl, by omega, rfl⟩

set_option maxRecDepth 8000 in
theorem c_X1_init {l : Launch} {d : Dd} {z : Nat} {N : Int} {I : Mm} {e : Ee} {a : Int} (h0 : 0 ≤ N) (hE : HE d z e) (ha : shk N a (0, 1)) (hs : shp N.toNat = (3, 25)) : Cn l d z yX1_init cX1_init 1 none 1 20 1 25 [vR z a] N I (pN (fun N' I' => N' = N + 1 ∧ I' = up (upR I N (fun _ => -1)) a 0 N)) := by
  refine Cn.ofA [(vR z a, false)] [some (vR z a)] RX1 (by decide) rfl ⟨cR z a, trivial⟩ (Nat.le_of_ble_eq_true rfl) rfl (fun x ed el hx hini => ?_)
  have ha0 := ha.1
  obtain ⟨⟨ao7, ao5, ao9⟩, ⟨n8, n1, n0, n2, n5⟩, -⟩ := hx.ex ed hE
  refine V_aload_0 hx dX1_init_0 ?_
  refine V_objInit hx mlX1_3 dX1_init_1 (by omega) (by decide) rfl (by first | exact Nat.le_of_ble_eq_true rfl | simp [vI, vL, vR_cat, Value.category]) ?_
  refine V_aload_0 hx dX1_init_4 ?_
  refine V_bipush hx dX1_init_5 (by decide) ?_
  refine V_newR hx (m := 25) (t0 := 2) dX1_init_7 (by omega) hs (by decide) klX1_9 ao9 rfl (fun f => rfl) (by omega) ?_
  refine V_putRFg 0 hx flX1_11 dX1_init_10 rfl (Or.inr ⟨_, rfl⟩) (fun r h => by cases h; exact ⟨rfl, rfl⟩) (hini rfl) (shk_s ha) ?_
  refine V_return hx dX1_init_13 (by omega) (by omega) ?_
  exact ⟨rfl, by omega, rfl⟩

set_option maxRecDepth 8000 in
theorem c_X2_init {l : Launch} {d : Dd} {z : Nat} {N : Int} {I : Mm} {e : Ee} {a : Int} (h0 : 0 ≤ N) (hE : HE d z e) (ha : shk N a (0, 2)) (hs : shp N.toNat = (3, 8)) (hs1 : shp (N + 1).toNat = (1, 64)) : Cn l d z yX2_init cX2_init 1 none 1 20 2 72 [vR z a] N I (pN (fun N' I' => N' = N + 2 ∧ I' = up (upR (up (upR I N (fun _ => -1)) a 0 N) (N + 1) (fun _ => 0)) a 2 (N + 1))) := by
  refine Cn.ofA [(vR z a, false)] [some (vR z a)] RX2 (by decide) rfl ⟨cR z a, trivial⟩ (Nat.le_of_ble_eq_true rfl) rfl (fun x ed el hx hini => ?_)
  have ha0 := ha.1
  obtain ⟨⟨ao7, ao5, ao9⟩, ⟨n8, n1, n0, n2, n5⟩, -⟩ := hx.ex ed hE
  refine V_aload_0 hx dX2_init_0 ?_
  refine V_objInit hx mlX2_3 dX2_init_1 (by omega) (by decide) rfl (by first | exact Nat.le_of_ble_eq_true rfl | simp [vI, vL, vR_cat, Value.category]) ?_
  refine V_aload_0 hx dX2_init_4 ?_
  refine V_bipush hx dX2_init_5 (by decide) ?_
  refine V_newR hx (m := 8) (t0 := 2) dX2_init_7 (by omega) hs (by decide) klX2_9 ao9 rfl (fun f => rfl) (by omega) ?_
  refine V_putRFg 0 hx flX2_11 dX2_init_10 rfl (Or.inr ⟨_, rfl⟩) (fun r h => by cases h; exact ⟨rfl, rfl⟩) (hini rfl) (shk_s ha) ?_
  refine V_aload_0 hx dX2_init_13 ?_
  refine V_bipush hx dX2_init_14 (by decide) ?_
  refine V_newI hx (m := 64) dX2_init_16 (by omega) hs1 (by decide) (by omega) ?_
  refine V_putRFg 2 hx flX2_17 dX2_init_18 rfl (Or.inr ⟨_, rfl⟩) (fun r h => by cases h; exact ⟨rfl, rfl⟩) (hini rfl) (shk_s (shk_s ha)) ?_
  refine V_return hx dX2_init_21 (by omega) (by omega) ?_
  exact ⟨rfl, by omega, rfl⟩

set_option maxRecDepth 8000 in
theorem c_X3_init {l : Launch} {d : Dd} {z : Nat} {N : Int} {I : Mm} {e : Ee} {a b : Int} (h0 : 0 ≤ N) (hE : HE d z e) (ha : shk N a (0, 3)) (hs : shp N.toNat = (3, 1000)) : Cn l d z yX3_init cX3_init 2 none 1 20 1 1000 [vR z a, vR z b] N I (pN (fun N' I' => N' = N + 1 ∧ I' = up (up (up (upR I N (fun _ => -1)) a 1 N) a 3 24) a 0 b)) := by
  refine Cn.ofA [(vR z a, false), (vR z b, false)] [some (vR z a), some (vR z b)] RX3 (by decide) rfl ⟨cR z a, cR z b, trivial⟩ (Nat.le_of_ble_eq_true rfl) rfl (fun x ed el hx hini => ?_)
  have ha0 := ha.1
  obtain ⟨⟨ao7, ao5, ao9⟩, ⟨n8, n1, n0, n2, n5⟩, -⟩ := hx.ex ed hE
  refine V_aload_0 hx dX3_init_0 ?_
  refine V_objInit hx mlX3_3 dX3_init_1 (by omega) (by decide) rfl (by first | exact Nat.le_of_ble_eq_true rfl | simp [vI, vL, vR_cat, Value.category]) ?_
  refine V_aload_0 hx dX3_init_4 ?_
  refine V_sipush hx dX3_init_5 (by decide) ?_
  refine V_newR hx (m := 1000) (t0 := 2) dX3_init_8 (by omega) hs (by decide) klX3_9 ao9 rfl (fun f => rfl) (by omega) ?_
  refine V_putRFg 1 hx flX3_11 dX3_init_11 rfl (Or.inr ⟨_, rfl⟩) (fun r h => by cases h; exact ⟨rfl, rfl⟩) (hini rfl) (shk_s ha) ?_
  refine V_aload_0 hx dX3_init_14 ?_
  refine V_bipush hx dX3_init_15 (by decide) ?_
  refine V_putI (f := 3) hx flX3_17 dX3_init_17 rfl (fun r h => by cases h; rfl) (shk_s ha) ?_
  refine V_aload_0 hx dX3_init_20 ?_
  refine V_aload_1 hx dX3_init_21 ?_
  refine V_putRFg 0 hx flX3_21 dX3_init_22 rfl (Or.inl ⟨_, rfl⟩) (fun r h => by cases h; exact ⟨rfl, rfl⟩) (hini rfl) (shk_s ha) ?_
  refine V_return hx dX3_init_25 (by omega) (by omega) ?_
  exact ⟨rfl, by omega, rfl⟩

set_option maxRecDepth 8000 in
theorem c_X5_init {l : Launch} {d : Dd} {z : Nat} {N : Int} {I : Mm} {a : Int} (h0 : 0 ≤ N) (ha : shk N a (0, 5)) (hs : shp N.toNat = (1, 24)) : Cn l d z yX5_init cX5_init 1 none 1 20 1 24 [vR z a] N I (pN (fun N' I' => N' = N + 1 ∧ I' = up (up (upR I N (fun _ => 0)) a 0 N) a 1 (-1))) := by
  refine Cn.ofA [(vR z a, false)] [some (vR z a)] RX5 (by decide) rfl ⟨cR z a, trivial⟩ (Nat.le_of_ble_eq_true rfl) rfl (fun x ed el hx hini => ?_)
  have ha0 := ha.1
  refine V_aload_0 hx dX5_init_0 ?_
  refine V_objInit hx mlX5_3 dX5_init_1 (by omega) (by decide) rfl (by first | exact Nat.le_of_ble_eq_true rfl | simp [vI, vL, vR_cat, Value.category]) ?_
  refine V_aload_0 hx dX5_init_4 ?_
  refine V_bipush hx dX5_init_5 (by decide) ?_
  refine V_newI hx (m := 24) dX5_init_7 (by omega) hs (by decide) (by omega) ?_
  refine V_putRFg 0 hx flX5_9 dX5_init_9 rfl (Or.inr ⟨_, rfl⟩) (fun r h => by cases h; exact ⟨rfl, rfl⟩) (hini rfl) (shk_s ha) ?_
  refine V_aload_0 hx dX5_init_12 ?_
  refine V_iconst hx dX5_init_13 ?_
  refine V_putI (f := 1) hx flX5_15 dX5_init_14 rfl (fun r h => by cases h; rfl) (shk_s ha) ?_
  refine V_return hx dX5_init_17 (by omega) (by omega) ?_
  exact ⟨rfl, by omega, rfl⟩

set_option maxRecDepth 8000 in
theorem c_X4_init {l : Launch} {d : Dd} {z : Nat} {N : Int} {I : Mm} {a : Int} (h0 : 0 ≤ N) (ha : shk N a (0, 4)) (hs : shp N.toNat = (1, 6)) : Cn l d z yX4_init cX4_init 2 none 1 20 1 6 [vR z a, vI 2] N I (pN (fun N' I' => N' = N + 1 ∧ I' = up (up (upR I N (fun _ => 0)) a 0 N) N 2 1)) := by
  refine Cn.ofA [(vR z a, false), (vI 2, false)] [some (vR z a), some (vI 2)] RX4 (by decide) rfl ⟨cR z a, rfl, trivial⟩ (Nat.le_of_ble_eq_true rfl) rfl (fun x ed el hx hini => ?_)
  have ha0 := ha.1
  refine V_aload_0 hx dX4_init_0 ?_
  refine V_objInit hx mlX4_3 dX4_init_1 (by omega) (by decide) rfl (by first | exact Nat.le_of_ble_eq_true rfl | simp [vI, vL, vR_cat, Value.category]) ?_
  refine V_aload_0 hx dX4_init_4 ?_
  refine V_bipush hx dX4_init_5 (by decide) ?_
  refine V_newI hx (m := 6) dX4_init_7 (by omega) hs (by decide) (by omega) ?_
  refine V_putRFg 0 hx flX4_9 dX4_init_9 rfl (Or.inr ⟨_, rfl⟩) (fun r h => by cases h; exact ⟨rfl, rfl⟩) (hini rfl) (shk_s ha) ?_
  refine V_iload_1 hx dX4_init_12 ?_
  refine V_if_lt (tgt := 29) hx dX4_init_13 (by decide) (by omega) (fun h => absurd h (by decide)) (fun _ => ?_)
  refine V_iload_1 hx dX4_init_16 ?_
  refine V_bipush hx dX4_init_17 (by decide) ?_
  refine V_icmp_ge (tgt := 29) hx dX4_init_19 (by decide) (by omega) (by omega) (fun h => absurd h (by decide)) (fun _ => ?_)
  refine V_aload_0 hx dX4_init_22 ?_
  refine V_getRe hx flX4_9 dX4_init_23 rfl (shk_s ha) (up_s _ _ _ _) ?_
  refine V_iload_1 hx dX4_init_26 ?_
  refine V_iconst hx dX4_init_27 ?_
  refine V_iastore hx dX4_init_28 (shk_n h0 hs) (by decide) (by omega) ?_
  refine V_return hx dX4_init_29 (by omega) (by omega) ?_
  exact ⟨rfl, by omega, rfl⟩

set_option maxRecDepth 8000 in
theorem c_X7_init {l : Launch} {d : Dd} {z : Nat} {N : Int} {I : Mm} {a i : Int} (h0 : 0 ≤ N) (ha : shk N a (0, 7)) (hs : shp N.toNat = (1, 7)) : Cn l d z yX7_init cX7_init 2 none 1 20 1 7 [vR z a, vI i] N I (pN (fun N' I' => N' = N + 1 ∧ I' = up (up (up (up (up (up (up (up (up (upR I N (fun _ => 0)) N 0 0) N 1 1) N 2 100) N 3 0) N 4 0) N 5 0) N 6 0) a 1 N) a 0 i)) := by
  refine Cn.ofA [(vR z a, false), (vI i, false)] [some (vR z a), some (vI i)] RX7 (by decide) rfl ⟨cR z a, rfl, trivial⟩ (Nat.le_of_ble_eq_true rfl) rfl (fun x ed el hx hini => ?_)
  have ha0 := ha.1
  refine V_aload_0 hx dX7_init_0 ?_
  refine V_objInit hx mlX7_3 dX7_init_1 (by omega) (by decide) rfl (by first | exact Nat.le_of_ble_eq_true rfl | simp [vI, vL, vR_cat, Value.category]) ?_
  refine V_aload_0 hx dX7_init_4 ?_
  refine V_bipush hx dX7_init_5 (by decide) ?_
  refine V_newI hx (m := 7) dX7_init_7 (by omega) hs (by decide) (by omega) ?_
  refine V_dupR hx dX7_init_9 ?_
  refine V_iconst hx dX7_init_10 ?_
  refine V_iconst hx dX7_init_11 ?_
  refine V_iastore hx dX7_init_12 (shk_n h0 hs) (by decide) (by omega) ?_
  refine V_dupR hx dX7_init_13 ?_
  refine V_iconst hx dX7_init_14 ?_
  refine V_iconst hx dX7_init_15 ?_
  refine V_iastore hx dX7_init_16 (shk_n h0 hs) (by decide) (by omega) ?_
  refine V_dupR hx dX7_init_17 ?_
  refine V_iconst hx dX7_init_18 ?_
  refine V_bipush hx dX7_init_19 (by decide) ?_
  refine V_iastore hx dX7_init_21 (shk_n h0 hs) (by decide) (by omega) ?_
  refine V_dupR hx dX7_init_22 ?_
  refine V_iconst hx dX7_init_23 ?_
  refine V_iconst hx dX7_init_24 ?_
  refine V_iastore hx dX7_init_25 (shk_n h0 hs) (by decide) (by omega) ?_
  refine V_dupR hx dX7_init_26 ?_
  refine V_iconst hx dX7_init_27 ?_
  refine V_iconst hx dX7_init_28 ?_
  refine V_iastore hx dX7_init_29 (shk_n h0 hs) (by decide) (by omega) ?_
  refine V_dupR hx dX7_init_30 ?_
  refine V_iconst hx dX7_init_31 ?_
  refine V_iconst hx dX7_init_32 ?_
  refine V_iastore hx dX7_init_33 (shk_n h0 hs) (by decide) (by omega) ?_
  refine V_dupR hx dX7_init_34 ?_
  refine V_bipush hx dX7_init_35 (by decide) ?_
  refine V_iconst hx dX7_init_37 ?_
  refine V_iastore hx dX7_init_38 (shk_n h0 hs) (by decide) (by omega) ?_
  refine V_putRFg 1 hx flX7_9 dX7_init_39 rfl (Or.inr ⟨_, rfl⟩) (fun r h => by cases h; exact ⟨rfl, rfl⟩) (hini rfl) (shk_s ha) ?_
  refine V_aload_0 hx dX7_init_42 ?_
  refine V_iload_1 hx dX7_init_43 ?_
  refine V_putIFg 0 hx flX7_15 dX7_init_44 rfl rfl (fun r h => by cases h; exact ⟨rfl, rfl⟩) (hini rfl) (shk_s ha) ?_
  refine V_return hx dX7_init_47 (by omega) (by omega) ?_
  exact ⟨rfl, by omega, rfl⟩

