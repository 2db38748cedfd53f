set_option maxRecDepth 8000 in
theorem c_X6_init {l : Launch} {d : Dd} {z : Nat} {N : Int} {I : Mm} {e : Ee} {a r1 r2 : Int} (h0 : 0 ≤ N) (hE : HE d z e) (ha : shk N a (0, 6)) (hs : shp N.toNat = (0, 1)) (hs1 : shp (N + 1).toNat = (3, 25)) (hs2 : shp (N + 1 + 1).toNat = (0, 1)) (hs3 : shp (N + 1 + 1 + 1).toNat = (3, 25)) : Cn l d z yX6_init cX6_init 3 none 2 40 4 54 [vR z a, vR z r1, vR z r2] N I (pN (fun N' I' => N' = N + 4 ∧ I' = up (up (up (up (upR (upR (up (up (upR (upR I N (fun q => if q = 0 then -1 else 0)) (N + 1) (fun _ => -1)) N 0 (N + 1)) a 0 N) (N + 1 + 1) (fun q => if q = 0 then -1 else 0)) (N + 1 + 1 + 1) (fun _ => -1)) (N + 1 + 1) 0 (N + 1 + 1 + 1)) a 1 (N + 1 + 1)) a 2 r1) a 3 r2)) := by
  refine Cn.ofA [(vR z a, false), (vR z r1, false), (vR z r2, false)] [some (vR z a), some (vR z r1), some (vR z r2)] RX6 (by decide) rfl ⟨cR z a, cR z r1, cR z r2, trivial⟩ (Nat.le_of_ble_eq_true rfl) rfl (fun x ed el hx hini => ?_)
  have ha0 := ha.1
  obtain ⟨⟨ao7, ao5, ao9⟩, ⟨n8, n1, n0, n2, n5⟩, -⟩ := hx.ex ed hE
  refine V_aload_0 hx dX6_init_0 ?_
  refine V_objInit hx mlX6_3 dX6_init_1 (by omega) (by decide) rfl (by first | exact Nat.le_of_ble_eq_true rfl | simp [vI, vL, vR_cat, Value.category]) ?_
  refine V_aload_0 hx dX6_init_4 ?_
  refine V_newO hx (ci := 1) (fun q => if q = 0 then -1 else 0) rfl klX6_9 knX1 kiX1 dX6_init_5 (by omega) hs (fun j hj => by
    have : j = 0 ∨ j = 1 := by omega
    rcases this with rfl | rfl <;> rfl) (by omega) ?_
  refine V_dupR hx dX6_init_8 ?_
  refine V_n0N hx el ed (c_X1_init (a := N) (by omega) hE (shk_n h0 hs) hs1) myX1_init n1 dX6_init_9 (by omega) (by decide) (by omega) rfl (by first | exact Nat.le_of_ble_eq_true rfl | (simp only [List.map_cons, List.map_nil, List.sum_cons, List.sum_nil, vR_cat, cat_I, cat_L]; decide)) ?_
  rintro _ _ ⟨rfl, rfl⟩
  refine V_putRFg 0 hx flX6_12 dX6_init_12 rfl (Or.inl ⟨_, rfl⟩) (fun r h => by cases h; exact ⟨rfl, rfl⟩) (hini rfl) (shk_s (shk_s ha)) ?_
  refine V_aload_0 hx dX6_init_15 ?_
  refine V_newO hx (ci := 1) (fun q => if q = 0 then -1 else 0) rfl klX6_9 knX1 kiX1 dX6_init_16 (by omega) hs2 (fun j hj => by
    have : j = 0 ∨ j = 1 := by omega
    rcases this with rfl | rfl <;> rfl) (by omega) ?_
  refine V_dupR hx dX6_init_19 ?_
  refine V_n0N hx el ed (c_X1_init (a := N + 1 + 1) (by omega) hE (shk_n (by omega) hs2) hs3) myX1_init n1 dX6_init_20 (by omega) (by decide) (by omega) rfl (by first | exact Nat.le_of_ble_eq_true rfl | (simp only [List.map_cons, List.map_nil, List.sum_cons, List.sum_nil, vR_cat, cat_I, cat_L]; decide)) ?_
  rintro _ _ ⟨rfl, rfl⟩
  refine V_putRFg 1 hx flX6_18 dX6_init_23 rfl (Or.inl ⟨_, rfl⟩) (fun r h => by cases h; exact ⟨rfl, rfl⟩) (hini rfl) (shk_s (shk_s (shk_s (shk_s ha)))) ?_
  refine V_aload_0 hx dX6_init_26 ?_
  refine V_aload_1 hx dX6_init_27 ?_
  refine V_putRFg 2 hx flX6_21 dX6_init_28 rfl (Or.inl ⟨_, rfl⟩) (fun r h => by cases h; exact ⟨rfl, rfl⟩) (hini rfl) (shk_s (shk_s (shk_s (shk_s ha)))) ?_
  refine V_aload_0 hx dX6_init_31 ?_
  refine V_aload_2 hx dX6_init_32 ?_
  refine V_putRFg 3 hx flX6_25 dX6_init_33 rfl (Or.inl ⟨_, rfl⟩) (fun r h => by cases h; exact ⟨rfl, rfl⟩) (hini rfl) (shk_s (shk_s (shk_s (shk_s ha)))) ?_
  refine V_return hx dX6_init_36 (by omega) (by omega) ?_
  exact ⟨rfl, by omega, rfl⟩

