def tM1 (I : Mm) : Mm := upR I 1 (fun _ => -1)
def tM2 (I : Mm) : Mm := up (tM1 I) 0 0 1
def tM3 (I : Mm) : Mm := upR (tM2 I) 2 (fun _ => -1)
def tM4 (I : Mm) : Mm := up (tM3 I) 0 1 2
def tM5 (I : Mm) : Mm := upR (tM4 I) 3 (fun _ => -1)
def tM6 (I : Mm) : Mm := up (tM5 I) 0 2 3
def tM7 (I : Mm) : Mm := upR (tM6 I) 4 (fun q => if q = 0 then -1 else 0)
def tM8 (I : Mm) : Mm := up (upR (tM7 I) 5 (fun _ => 0)) 4 0 5
def tM9 (I : Mm) : Mm := up (tM8 I) 0 4 4
def tM10 (I : Mm) : Mm := upR (tM9 I) 6 (fun _ => 0)
def tM11 (I : Mm) : Mm := up (tM10 I) 0 5 6
def tM12 (I : Mm) : Mm := upR (tM11 I) 7 (fun _ => -1)
def tM13 (I : Mm) : Mm := up (up (upR (tM12 I) 8 (fun _ => 0)) 7 0 8) 8 2 1
def tM14 (I : Mm) : Mm := up (tM13 I) 0 6 7
def tM15 (I : Mm) : Mm := upR (tM14 I) 9 (fun _ => -1)
def tM16 (I : Mm) : Mm := up (up (upR (tM15 I) 10 (fun _ => 0)) 9 0 10) 10 2 1
def tM17 (I : Mm) : Mm := up (tM16 I) 0 7 9
def tM18 (I : Mm) : Mm := upR (tM17 I) 11 (fun q => if q = 0 ∨ q = 1 ∨ q = 5 then -1 else 0)
def tM19 (I : Mm) : Mm := upR (tM18 I) 12 (fun _ => -1)
def tM20 (I : Mm) : Mm := up (up (up (up (upR (upR (up (up (upR (upR (tM19 I) 13 (fun q => if q = 0 then -1 else 0)) 14 (fun _ => -1)) 13 0 14) 12 0 13) 15 (fun q => if q = 0 then -1 else 0)) 16 (fun _ => -1)) 15 0 16) 12 1 15) 12 2 7) 12 3 9
def tM21 (I : Mm) : Mm := up (up (up (upR (tM20 I) 17 (fun _ => -1)) 11 1 17) 11 3 24) 11 0 12
def tM22 (I : Mm) : Mm := up (tM21 I) 0 8 11
def tM23 (I : Mm) : Mm := upR (tM22 I) 18 (fun q => if q = 1 then 0 else -1)
def tM24 (I : Mm) : Mm := up (upR (up (upR (up (upR (tM23 I) 19 (fun _ => 0)) 18 0 19) 20 (fun _ => 0)) 18 2 20) 21 (fun _ => 0)) 18 3 21
def tM25 (I : Mm) : Mm := up (tM24 I) 0 9 18
def tM26 (I : Mm) : Mm := upR (tM25 I) 22 (fun q => if q = 1 then 0 else -1)
def tM27 (I : Mm) : Mm := up (upR (up (upR (tM26 I) 23 (fun _ => -1)) 22 0 23) 24 (fun _ => 0)) 22 2 24
def tM28 (I : Mm) : Mm := up (tM27 I) 0 10 22
def stS (M : Mm) (i : Int) : Mm := up (up (up (up (up (up (up (up (up (up (upR (upR M (25 + 2 * i) (fun q => if q = 1 then -1 else 0)) (25 + 2 * i + 1) (fun _ => 0)) (25 + 2 * i + 1) 0 0) (25 + 2 * i + 1) 1 1) (25 + 2 * i + 1) 2 100) (25 + 2 * i + 1) 3 0) (25 + 2 * i + 1) 4 0) (25 + 2 * i + 1) 5 0) (25 + 2 * i + 1) 6 0) (25 + 2 * i) 1 (25 + 2 * i + 1)) (25 + 2 * i) 0 i) 1 i (25 + 2 * i)
def shS (M : Mm) (i : Int) : Mm := up (up (up (upR (upR M (41 + 2 * i) (fun q => if q = 0 then -1 else 0)) (41 + 2 * i + 1) (fun _ => 0)) (41 + 2 * i) 0 (41 + 2 * i + 1)) (41 + 2 * i) 1 (-1)) 2 i (41 + 2 * i)
def tIni (I : Mm) : Mm := fld shS (fld stS (tM28 I) 8) 4
set_option maxRecDepth 8000 in
theorem c_X10_init {l : Launch} {d : Dd} {z : Nat} {I : Mm} {e : Ee} (hE : HE d z e) : Cn l d z yX10_init cX10_init 2 none 3 62 48 3514 [vR z 0] 1 I (pN (fun N' I' => N' = 49 ∧ I' = tIni I)) := by
  refine Cn.ofA [(vR z 0, false)] [some (vR z 0), none] RX10 (by decide) rfl ⟨cR z 0, trivial⟩ (Nat.le_of_ble_eq_true rfl) rfl (fun x ed el hx hini => ?_)
  obtain ⟨⟨ao7, ao5, ao9⟩, ⟨n8, n1, n0, n2, n5⟩, -⟩ := hx.ex ed hE
  refine V_aload_0 hx dX10_init_0 ?_
  refine V_objInit hx mlX10_1 dX10_init_1 (by omega) (by decide) rfl (by first | exact Nat.le_of_ble_eq_true rfl | simp [vI, vL, vR_cat, Value.category]) ?_
  refine V_aload_0 hx dX10_init_4 ?_
  refine V_bipush hx dX10_init_5 (by decide) ?_
  refine V_newR hx (m := 8) (s := 4) (t0 := 3) dX10_init_7 (by decide) rfl (by decide) klX10_9 ao7 rfl (fun f => rfl) (by omega) ?_
  refine V_cnt (N' := 2) (by decide) rfl rfl ?_
  refine V_mem (tM1 I) rfl ?_
  refine V_putRFg 0 hx flX10_11 dX10_init_10 rfl (Or.inr ⟨_, rfl⟩) (fun r h => by cases h; exact ⟨rfl, rfl⟩) (hini rfl) (show shk 2 0 (0, 10) from ⟨by decide, by decide, rfl⟩) ?_
  refine V_mem (tM2 I) rfl ?_
  refine V_aload_0 hx dX10_init_13 ?_
  refine V_iconst hx dX10_init_14 ?_
  refine V_newR hx (m := 4) (s := 5) (t0 := 4) dX10_init_15 (by decide) rfl (by decide) klX10_15 ao5 rfl (fun f => rfl) (by omega) ?_
  refine V_cnt (N' := 3) (by decide) rfl rfl ?_
  refine V_mem (tM3 I) rfl ?_
  refine V_putRFg 1 hx flX10_17 dX10_init_18 rfl (Or.inr ⟨_, rfl⟩) (fun r h => by cases h; exact ⟨rfl, rfl⟩) (hini rfl) (show shk 3 0 (0, 10) from ⟨by decide, by decide, rfl⟩) ?_
  refine V_mem (tM4 I) rfl ?_
  refine V_aload_0 hx dX10_init_21 ?_
  refine V_sipush hx dX10_init_22 (by decide) ?_
  refine V_newR hx (m := 1000) (s := 3) (t0 := 2) dX10_init_25 (by decide) rfl (by decide) klX10_21 ao9 rfl (fun f => rfl) (by omega) ?_
  refine V_cnt (N' := 4) (by decide) rfl rfl ?_
  refine V_mem (tM5 I) rfl ?_
  refine V_putRFg 2 hx flX10_23 dX10_init_28 rfl (Or.inr ⟨_, rfl⟩) (fun r h => by cases h; exact ⟨rfl, rfl⟩) (hini rfl) (show shk 4 0 (0, 10) from ⟨by decide, by decide, rfl⟩) ?_
  refine V_mem (tM6 I) rfl ?_
  refine V_aload_0 hx dX10_init_31 ?_
  refine V_newO hx (ci := 8) (fun q => if q = 0 then -1 else 0) rfl klX10_27 knX8 kiX8 dX10_init_32 (by decide) rfl (fun j hj => by
    have : j = 0 ∨ j = 1 ∨ j = 2 := by omega
    rcases this with rfl | rfl | rfl <;> rfl) (by omega) ?_
  refine V_cnt (N' := 5) (by decide) rfl rfl ?_
  refine V_mem (tM7 I) rfl ?_
  refine V_dupR hx dX10_init_35 ?_
  refine V_n0N hx el ed (c_X8_init (a := 4) (by decide) (show shk 5 4 (0, 8) from ⟨by decide, by decide, rfl⟩) rfl) myX8_init n8 dX10_init_36 (by decide) (by decide) (by omega) rfl (by first | exact Nat.le_of_ble_eq_true rfl | (simp only [List.map_cons, List.map_nil, List.sum_cons, List.sum_nil, vR_cat, cat_I, cat_L]; decide)) ?_
  rintro _ _ ⟨rfl, rfl⟩
  refine V_cnt (N' := 6) (by decide) rfl rfl ?_
  refine V_mem (tM8 I) rfl ?_
  refine V_putRFg 4 hx flX10_30 dX10_init_39 rfl (Or.inl ⟨_, rfl⟩) (fun r h => by cases h; exact ⟨rfl, rfl⟩) (hini rfl) (show shk 6 0 (0, 10) from ⟨by decide, by decide, rfl⟩) ?_
  refine V_mem (tM9 I) rfl ?_
  refine V_aload_0 hx dX10_init_42 ?_
  refine V_bipush hx dX10_init_43 (by decide) ?_
  refine V_newI hx (m := 6) dX10_init_45 (by decide) rfl (by decide) (by omega) ?_
  refine V_cnt (N' := 7) (by decide) rfl rfl ?_
  refine V_mem (tM10 I) rfl ?_
  refine V_putRFg 5 hx flX10_34 dX10_init_47 rfl (Or.inr ⟨_, rfl⟩) (fun r h => by cases h; exact ⟨rfl, rfl⟩) (hini rfl) (show shk 7 0 (0, 10) from ⟨by decide, by decide, rfl⟩) ?_
  refine V_mem (tM11 I) rfl ?_
  refine V_aload_0 hx dX10_init_50 ?_
  refine V_newO hx (ci := 4) (fun _ => -1) rfl klX10_38 knX4 kiX4 dX10_init_51 (by decide) rfl (fun j hj => by
    have : j = 0 := by omega
    rcases this with rfl <;> rfl) (by omega) ?_
  refine V_cnt (N' := 8) (by decide) rfl rfl ?_
  refine V_mem (tM12 I) rfl ?_
  refine V_dupR hx dX10_init_54 ?_
  refine V_iconst hx dX10_init_55 ?_
  refine V_i1N hx el ed (c_X4_init (a := 7) (by decide) (show shk 8 7 (0, 4) from ⟨by decide, by decide, rfl⟩) rfl) myX4_init mlX10_40 dX10_init_56 (by decide) (by decide) (by omega) rfl (by first | exact Nat.le_of_ble_eq_true rfl | (simp only [List.map_cons, List.map_nil, List.sum_cons, List.sum_nil, vR_cat, cat_I, cat_L]; decide)) ?_
  rintro _ _ ⟨rfl, rfl⟩
  refine V_cnt (N' := 9) (by decide) rfl rfl ?_
  refine V_mem (tM13 I) rfl ?_
  refine V_putRFg 6 hx flX10_43 dX10_init_59 rfl (Or.inl ⟨_, rfl⟩) (fun r h => by cases h; exact ⟨rfl, rfl⟩) (hini rfl) (show shk 9 0 (0, 10) from ⟨by decide, by decide, rfl⟩) ?_
  refine V_mem (tM14 I) rfl ?_
  refine V_aload_0 hx dX10_init_62 ?_
  refine V_newO hx (ci := 4) (fun _ => -1) rfl klX10_38 knX4 kiX4 dX10_init_63 (by decide) rfl (fun j hj => by
    have : j = 0 := by omega
    rcases this with rfl <;> rfl) (by omega) ?_
  refine V_cnt (N' := 10) (by decide) rfl rfl ?_
  refine V_mem (tM15 I) rfl ?_
  refine V_dupR hx dX10_init_66 ?_
  refine V_iconst hx dX10_init_67 ?_
  refine V_i1N hx el ed (c_X4_init (a := 9) (by decide) (show shk 10 9 (0, 4) from ⟨by decide, by decide, rfl⟩) rfl) myX4_init mlX10_40 dX10_init_68 (by decide) (by decide) (by omega) rfl (by first | exact Nat.le_of_ble_eq_true rfl | (simp only [List.map_cons, List.map_nil, List.sum_cons, List.sum_nil, vR_cat, cat_I, cat_L]; decide)) ?_
  rintro _ _ ⟨rfl, rfl⟩
  refine V_cnt (N' := 11) (by decide) rfl rfl ?_
  refine V_mem (tM16 I) rfl ?_
  refine V_putRFg 7 hx flX10_47 dX10_init_71 rfl (Or.inl ⟨_, rfl⟩) (fun r h => by cases h; exact ⟨rfl, rfl⟩) (hini rfl) (show shk 11 0 (0, 10) from ⟨by decide, by decide, rfl⟩) ?_
  refine V_mem (tM17 I) rfl ?_
  refine V_aload_0 hx dX10_init_74 ?_
  refine V_newO hx (ci := 3) (fun q => if q = 0 ∨ q = 1 ∨ q = 5 then -1 else 0) rfl klX10_50 knX3 kiX3 dX10_init_75 (by decide) rfl (fun j hj => by
    have : j = 0 ∨ j = 1 ∨ j = 2 ∨ j = 3 ∨ j = 4 ∨ j = 5 ∨ j = 6 ∨ j = 7 ∨ j = 8 ∨ j = 9 := by omega
    rcases this with rfl | rfl | rfl | rfl | rfl | rfl | rfl | rfl | rfl | rfl <;> rfl) (by omega) ?_
  refine V_cnt (N' := 12) (by decide) rfl rfl ?_
  refine V_mem (tM18 I) rfl ?_
  refine V_dupR hx dX10_init_78 ?_
  refine V_newO hx (ci := 6) (fun _ => -1) rfl klX10_52 knX6 kiX6 dX10_init_79 (by decide) rfl (fun j hj => by
    have : j = 0 ∨ j = 1 ∨ j = 2 ∨ j = 3 := by omega
    rcases this with rfl | rfl | rfl | rfl <;> rfl) (by omega) ?_
  refine V_cnt (N' := 13) (by decide) rfl rfl ?_
  refine V_mem (tM19 I) rfl ?_
  refine V_dupR hx dX10_init_82 ?_
  refine V_aload_0 hx dX10_init_83 ?_
  refine V_getRe hx flX10_43 dX10_init_84 rfl (show shk 13 0 (0, 10) from ⟨by decide, by decide, rfl⟩) (show tM19 I 0 6 = 7 from rfl) ?_
  refine V_aload_0 hx dX10_init_87 ?_
  refine V_getRe hx flX10_47 dX10_init_88 rfl (show shk 13 0 (0, 10) from ⟨by decide, by decide, rfl⟩) (show tM19 I 0 7 = 9 from rfl) ?_
  refine V_i2N hx el ed (c_X6_init (a := 12) (by decide) hE (show shk 13 12 (0, 6) from ⟨by decide, by decide, rfl⟩) rfl rfl rfl rfl) myX6_init mlX10_54 dX10_init_91 (by decide) (by decide) (by omega) rfl (by first | exact Nat.le_of_ble_eq_true rfl | (simp only [List.map_cons, List.map_nil, List.sum_cons, List.sum_nil, vR_cat, cat_I, cat_L]; decide)) ?_
  rintro _ _ ⟨rfl, rfl⟩
  refine V_cnt (N' := 17) (by decide) rfl rfl ?_
  refine V_mem (tM20 I) rfl ?_
  refine V_i1N hx el ed (c_X3_init (a := 11) (by decide) hE (show shk 17 11 (0, 3) from ⟨by decide, by decide, rfl⟩) rfl) myX3_init mlX10_57 dX10_init_94 (by decide) (by decide) (by omega) rfl (by first | exact Nat.le_of_ble_eq_true rfl | (simp only [List.map_cons, List.map_nil, List.sum_cons, List.sum_nil, vR_cat, cat_I, cat_L]; decide)) ?_
  rintro _ _ ⟨rfl, rfl⟩
  refine V_cnt (N' := 18) (by decide) rfl rfl ?_
  refine V_mem (tM21 I) rfl ?_
  refine V_putRFg 8 hx flX10_60 dX10_init_97 rfl (Or.inl ⟨_, rfl⟩) (fun r h => by cases h; exact ⟨rfl, rfl⟩) (hini rfl) (show shk 18 0 (0, 10) from ⟨by decide, by decide, rfl⟩) ?_
  refine V_mem (tM22 I) rfl ?_
  refine V_aload_0 hx dX10_init_100 ?_
  refine V_newO hx (ci := 0) (fun q => if q = 1 then 0 else -1) rfl klX10_64 knX0 kiX0 dX10_init_101 (by decide) rfl (fun j hj => by
    have : j = 0 ∨ j = 1 ∨ j = 2 ∨ j = 3 := by omega
    rcases this with rfl | rfl | rfl | rfl <;> rfl) (by omega) ?_
  refine V_cnt (N' := 19) (by decide) rfl rfl ?_
  refine V_mem (tM23 I) rfl ?_
  refine V_dupR hx dX10_init_104 ?_
  refine V_n0N hx el ed (c_X0_init (a := 18) (by decide) (show shk 19 18 (0, 0) from ⟨by decide, by decide, rfl⟩) rfl rfl rfl) myX0_init n0 dX10_init_105 (by decide) (by decide) (by omega) rfl (by first | exact Nat.le_of_ble_eq_true rfl | (simp only [List.map_cons, List.map_nil, List.sum_cons, List.sum_nil, vR_cat, cat_I, cat_L]; decide)) ?_
  rintro _ _ ⟨rfl, rfl⟩
  refine V_cnt (N' := 22) (by decide) rfl rfl ?_
  refine V_mem (tM24 I) rfl ?_
  refine V_putRFg 9 hx flX10_67 dX10_init_108 rfl (Or.inl ⟨_, rfl⟩) (fun r h => by cases h; exact ⟨rfl, rfl⟩) (hini rfl) (show shk 22 0 (0, 10) from ⟨by decide, by decide, rfl⟩) ?_
  refine V_mem (tM25 I) rfl ?_
  refine V_aload_0 hx dX10_init_111 ?_
  refine V_newO hx (ci := 2) (fun q => if q = 1 then 0 else -1) rfl klX10_71 knX2 kiX2 dX10_init_112 (by decide) rfl (fun j hj => by
    have : j = 0 ∨ j = 1 ∨ j = 2 := by omega
    rcases this with rfl | rfl | rfl <;> rfl) (by omega) ?_
  refine V_cnt (N' := 23) (by decide) rfl rfl ?_
  refine V_mem (tM26 I) rfl ?_
  refine V_dupR hx dX10_init_115 ?_
  refine V_n0N hx el ed (c_X2_init (a := 22) (by decide) hE (show shk 23 22 (0, 2) from ⟨by decide, by decide, rfl⟩) rfl rfl) myX2_init n2 dX10_init_116 (by decide) (by decide) (by omega) rfl (by first | exact Nat.le_of_ble_eq_true rfl | (simp only [List.map_cons, List.map_nil, List.sum_cons, List.sum_nil, vR_cat, cat_I, cat_L]; decide)) ?_
  rintro _ _ ⟨rfl, rfl⟩
  refine V_cnt (N' := 25) (by decide) rfl rfl ?_
  refine V_mem (tM27 I) rfl ?_
  refine V_putRFg 10 hx flX10_74 dX10_init_119 rfl (Or.inl ⟨_, rfl⟩) (fun r h => by cases h; exact ⟨rfl, rfl⟩) (hini rfl) (show shk 25 0 (0, 10) from ⟨by decide, by decide, rfl⟩) ?_
  refine V_mem (tM28 I) rfl ?_
  refine V_iconst hx dX10_init_122 ?_
  refine V_istore_1 hx (by first | exact nc_I | exact nc_R | exact nc_n) dX10_init_123 ?_
  refine V_cnt (N' := 25 + 2 * 0) (k' := 24 + 2 * (0 : Int).toNat) (n' := 3302 + 13 * (0 : Int).toNat) (by decide) rfl rfl ?_
  refine loop_inv (α := Mm) 0 8 (by decide) (fun i M => M = fld stS (tM28 I) i.toNat ∧ M 0 0 = 1 ∧ M 0 1 = 2) (fun i M => V x z _ (25 + 2 * i) M (24 + 2 * i.toNat) (3302 + 13 * i.toNat) 124 [some (vR z 0), some (vI i)] []) ?_ ?_ _ ⟨rfl, rfl, rfl⟩
  · rintro M0 ⟨eM0, m00, m01⟩
    refine V_iload_1 hx dX10_init_124 ?_
    refine V_bipush hx dX10_init_125 (by decide) ?_
    refine V_icmp_ge (tgt := 150) hx dX10_init_127 (by decide) (by omega) (by omega) (fun h127 => ?_) (fun h127 => ?_)
    · refine V_iconst hx dX10_init_150 ?_
      refine V_istore_1 hx (by first | exact nc_I | exact nc_R | exact nc_n) dX10_init_151 ?_
      refine V_cnt (N' := 41 + 2 * 0) (k' := 40 + 2 * (0 : Int).toNat) (n' := 3406 + 27 * (0 : Int).toNat) (by decide) rfl rfl ?_
      refine loop_inv (α := Mm) 0 4 (by decide) (fun i M => M = fld shS (fld stS (tM28 I) 8) i.toNat ∧ M 0 1 = 2) (fun i M => V x z _ (41 + 2 * i) M (40 + 2 * i.toNat) (3406 + 27 * i.toNat) 152 [some (vR z 0), some (vI i)] []) ?_ ?_ _ ⟨eM0, m01⟩
      · rintro M ⟨eM, m01⟩
        refine V_iload_1 hx dX10_init_152 ?_
        refine V_iconst hx dX10_init_153 ?_
        refine V_icmp_ge (tgt := 176) hx dX10_init_154 (by decide) (by omega) (by omega) (fun h154 => ?_) (fun h154 => ?_)
        · refine V_return hx dX10_init_176 (by omega) (by omega) ?_
          exact ⟨rfl, rfl, eM⟩
        · exfalso; omega
      · rintro i M hi0 hi1 ⟨eM, m01⟩ ih
        refine V_iload_1 hx dX10_init_152 ?_
        refine V_iconst hx dX10_init_153 ?_
        refine V_icmp_ge (tgt := 176) hx dX10_init_154 (by decide) (by omega) (by omega) (fun h154 => ?_) (fun h154 => ?_)
        · exfalso; omega
        · refine V_aload_0 hx dX10_init_157 ?_
          refine V_getRe hx flX10_17 dX10_init_158 rfl (show shk (41 + 2 * i) 0 (0, 10) from ⟨by decide, by omega, rfl⟩) m01 ?_
          refine V_iload_1 hx dX10_init_161 ?_
          refine V_newO hx (ci := 5) (fun q => if q = 0 then -1 else 0) rfl klX10_15 knX5 kiX5 dX10_init_162 (by omega) (ksh (N := 67) (by decide) hi0 (by omega)).1.2.2 (fun j hj => by
            have : j = 0 ∨ j = 1 ∨ j = 2 := by omega
            rcases this with rfl | rfl | rfl <;> rfl) (by omega) ?_
          refine V_dupR hx dX10_init_165 ?_
          refine V_n0N hx el ed (c_X5_init (a := 41 + 2 * i) (by omega) (shk_n (by omega) (ksh (N := 67) (by decide) hi0 (by omega)).1.2.2) (show shp (41 + 2 * i + 1).toNat = (1, 24) by rw [show 41 + 2 * i + 1 = 42 + 2 * i by omega]; exact (ksh (N := 67) (by decide) hi0 (by omega)).2.2.2)) myX5_init n5 dX10_init_166 (by omega) (by decide) (by omega) rfl (by first | exact Nat.le_of_ble_eq_true rfl | (simp only [List.map_cons, List.map_nil, List.sum_cons, List.sum_nil, vR_cat, cat_I, cat_L]; decide)) ?_
          rintro _ _ ⟨rfl, rfl⟩
          refine V_aastore hx dX10_init_169 (show shk (41 + 2 * i + 1 + 1) 2 (5, 4) from ⟨by decide, by omega, rfl⟩) (by unfold refK; omega) (by decide) (by omega) (Or.inr (shk_s (shk_n (by omega) (ksh (N := 67) (by decide) hi0 (by omega)).1.2.2))) ?_
          refine V_iinc_1 hx (by first | exact nc_I | exact nc_R | exact nc_n) dX10_init_170 ?_
          refine V_goto (tgt := 152) hx dX10_init_173 (by decide) ?_
          refine V_cnt (N' := 41 + 2 * (i + 1)) (k' := 40 + 2 * (i + 1).toNat) (n' := 3406 + 27 * (i + 1).toNat) (by omega) (by omega) (by omega) ?_
          refine ih _ ⟨?_, ?_⟩
          · rw [fld_s _ _ hi0, ← eM]; rfl
          · rw [up_c (by decide), up_c (by omega), up_c (by omega), upR_q (by omega), upR_q (by omega)]; exact m01
    · exfalso; omega
  · rintro i M hi0 hi1 ⟨eM, m00, m01⟩ ih
    refine V_iload_1 hx dX10_init_124 ?_
    refine V_bipush hx dX10_init_125 (by decide) ?_
    refine V_icmp_ge (tgt := 150) hx dX10_init_127 (by decide) (by omega) (by omega) (fun h127 => ?_) (fun h127 => ?_)
    · exfalso; omega
    · refine V_aload_0 hx dX10_init_130 ?_
      refine V_getRe hx flX10_11 dX10_init_131 rfl (show shk (25 + 2 * i) 0 (0, 10) from ⟨by decide, by omega, rfl⟩) m00 ?_
      refine V_iload_1 hx dX10_init_134 ?_
      refine V_newO hx (ci := 7) (fun q => if q = 1 then -1 else 0) rfl klX10_9 knX7 kiX7 dX10_init_135 (by omega) (kst (N := 67) (by decide) hi0 (by omega)).1.2.2 (fun j hj => by
        have : j = 0 ∨ j = 1 ∨ j = 2 ∨ j = 3 ∨ j = 4 ∨ j = 5 := by omega
        rcases this with rfl | rfl | rfl | rfl | rfl | rfl <;> rfl) (by omega) ?_
      refine V_dupR hx dX10_init_138 ?_
      refine V_iload_1 hx dX10_init_139 ?_
      refine V_i1N hx el ed (c_X7_init (a := 25 + 2 * i) (by omega) (shk_n (by omega) (kst (N := 67) (by decide) hi0 (by omega)).1.2.2) (show shp (25 + 2 * i + 1).toNat = (1, 7) by rw [show 25 + 2 * i + 1 = 26 + 2 * i by omega]; exact (kst (N := 67) (by decide) hi0 (by omega)).2.2.2)) myX7_init mlX10_78 dX10_init_140 (by omega) (by decide) (by omega) rfl (by first | exact Nat.le_of_ble_eq_true rfl | (simp only [List.map_cons, List.map_nil, List.sum_cons, List.sum_nil, vR_cat, cat_I, cat_L]; decide)) ?_
      rintro _ _ ⟨rfl, rfl⟩
      refine V_aastore hx dX10_init_143 (show shk (25 + 2 * i + 1 + 1) 1 (4, 8) from ⟨by decide, by omega, rfl⟩) (by unfold refK; omega) (by decide) (by omega) (Or.inr (shk_s (shk_n (by omega) (kst (N := 67) (by decide) hi0 (by omega)).1.2.2))) ?_
      refine V_iinc_1 hx (by first | exact nc_I | exact nc_R | exact nc_n) dX10_init_144 ?_
      refine V_goto (tgt := 124) hx dX10_init_147 (by decide) ?_
      refine V_cnt (N' := 25 + 2 * (i + 1)) (k' := 24 + 2 * (i + 1).toNat) (n' := 3302 + 13 * (i + 1).toNat) (by omega) (by omega) (by omega) ?_
      refine ih _ ⟨?_, ?_, ?_⟩
      · rw [fld_s _ _ hi0, ← eM]; rfl
      · rw [up_c (by decide), up_c (by omega), up_c (by omega), up_c (by omega), up_c (by omega), up_c (by omega), up_c (by omega), up_c (by omega), up_c (by omega), up_c (by omega), upR_q (by omega), upR_q (by omega)]; exact m00
      · rw [up_c (by decide), up_c (by omega), up_c (by omega), up_c (by omega), up_c (by omega), up_c (by omega), up_c (by omega), up_c (by omega), up_c (by omega), up_c (by omega), upR_q (by omega), upR_q (by omega)]; exact m01

