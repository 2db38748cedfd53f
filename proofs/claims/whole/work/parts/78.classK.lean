set_option maxRecDepth 8000 in
theorem c_X2_clear {l : Launch} {d : Dd} {z : Nat} {N : Int} {I : Mm} (hN : 67 ≤ N) (hF : Fx I) : Cn l d z yX2_clear cX2_clear 1 none 0 0 0 0 [vR z 22] N I (pN (fun N' I' => N' = N ∧ I' = up I 22 1 0 ∧ Fx I')) := by
  refine Cn.ofA [(vR z 22, false)] [some (vR z 22)] RX2 (by decide) rfl ⟨cR z 22, trivial⟩ (Nat.le_of_ble_eq_true rfl) rfl (fun x ed el hx hini => ?_)
  refine V_aload_0 hx dX2_clear_0 ?_
  refine V_iconst hx dX2_clear_1 ?_
  refine V_putIx 1 hx hF flX2_21 dX2_clear_2 rfl rfl (fun r h => by cases h; rfl) (k22 hN) rfl (by omega) (Or.inl (by decide)) (fun hF => ?_)
  refine V_return hx dX2_clear_5 (by omega) (by omega) ?_
  exact ⟨rfl, rfl, rfl, hF⟩

set_option maxRecDepth 8000 in
theorem c_X2_add {l : Launch} {d : Dd} {z : Nat} {N : Int} {I : Mm} {b : Int} (hN : 67 ≤ N) (hF : Fx I) (hz : 0 ≤ I 22 1 ∧ I 22 1 < 8) (hb : shk N b (0, 9)) (hbr : 67 ≤ b ∧ b ≤ 2000) : Cn l d z yX2_add cX2_add 2 none 0 0 0 0 [vR z 22, vR z b] N I (pN (fun N' I' => N' = N ∧ I' = up (up I 23 (I 22 1) b) 22 1 (I 22 1 + 1) ∧ Fx I')) := by
  refine Cn.ofA [(vR z 22, false), (vR z b, false)] [some (vR z 22), some (vR z b)] RX2 (by decide) rfl ⟨cR z 22, cR z b, trivial⟩ (Nat.le_of_ble_eq_true rfl) rfl (fun x ed el hx hini => ?_)
  refine V_aload_0 hx dX2_add_0 ?_
  refine V_getIx 1 hx hF flX2_21 dX2_add_1 rfl rfl (k22 hN) (fun r1 => ?_)
  refine V_aload_0 hx dX2_add_4 ?_
  refine V_getRe hx flX2_11 dX2_add_5 rfl (k22 hN) (hF.1 22 0 23 rfl) ?_
  refine V_alen hx dX2_add_8 (k23 hN) (by unfold tyK; omega) ?_
  refine V_icmp_ge (tgt := 32) hx dX2_add_9 (by decide) (by omega) (by omega) (fun h9 => ?_) (fun h9 => ?_)
  · refine V_return hx dX2_add_32 (by omega) (by omega) ?_
    first | (exfalso; omega) | exact ⟨rfl, rfl, rfl, hF⟩
  · refine V_aload_0 hx dX2_add_12 ?_
    refine V_getRe hx flX2_11 dX2_add_13 rfl (k22 hN) (hF.1 22 0 23 rfl) ?_
    refine V_aload_0 hx dX2_add_16 ?_
    refine V_getIx 1 hx hF flX2_21 dX2_add_17 rfl rfl (k22 hN) (fun r17 => ?_)
    refine V_aload_1 hx dX2_add_20 ?_
    refine V_aastorex hx hF dX2_add_21 (k23 hN) (by unfold refK; omega) (by decide) (by omega) (Or.inr hb) (fx_none rfl _) (by omega) (Or.inl (by decide)) (fun hF => ?_)
    refine V_aload_0 hx dX2_add_22 ?_
    refine V_dupR hx dX2_add_23 ?_
    refine V_getIx 1 hx hF flX2_21 dX2_add_24 rfl rfl (k22 hN) (fun r24 => ?_)
    (try simp only [up_s, up_c, up_row, up_k, ne_eq, Int.reduceEq, not_false_eq_true] at r24 ⊢)
    refine V_iconst hx dX2_add_27 ?_
    refine V_iadd hx dX2_add_28 ?_
    refine V_putIx 1 hx hF flX2_21 dX2_add_29 rfl rfl (fun r h => by cases h; rfl) (k22 hN) rfl (by omega) (Or.inl (by decide)) (fun hF => ?_)
    refine V_return hx dX2_add_32 (by omega) (by omega) ?_
    first | (exfalso; omega) | exact ⟨rfl, rfl, rfl, hF⟩

set_option maxRecDepth 8000 in
theorem c_X2_has {l : Launch} {d : Dd} {z : Nat} {N : Int} {I : Mm} {b : Int} (hN : 67 ≤ N) (hF : Fx I) (hP : PkC I N) (hb : 0 ≤ b) : Cn l d z yX2_has cX2_has 3 (some .boolean) 0 0 0 0 [vR z 22, vR z b] N I (pv (vB (∃ q : Int, 0 ≤ q ∧ q < I 22 1 ∧ I 23 q = b)) N I) := by
  refine Cn.ofA [(vR z 22, false), (vR z b, false)] [some (vR z 22), some (vR z b), none] RX2 (by decide) rfl ⟨cR z 22, cR z b, trivial⟩ (Nat.le_of_ble_eq_true rfl) rfl (fun x ed el hx hini => ?_)
  have hl := hP.1
  refine V_iconst hx dX2_has_0 ?_
  refine V_istore_2 hx (by first | exact nc_I | exact nc_R | exact nc_n) dX2_has_1 ?_
  refine loop_inv (α := Unit) 0 (I 22 1) hl.1 (fun i _ => ∀ q : Int, 0 ≤ q → q < i → I 23 q ≠ b) (fun i _ => V x z _ N I 0 0 2 [some (vR z 22), some (vR z b), some (vI i)] []) ?_ ?_ () (fun q a b => by omega)
  · rintro _ hJ
    refine V_iload_2 hx dX2_has_2 ?_
    refine V_aload_0 hx dX2_has_3 ?_
    refine V_getIx 1 hx hF flX2_21 dX2_has_4 rfl rfl (k22 hN) (fun r4 => ?_)
    refine V_icmp_ge (tgt := 28) hx dX2_has_7 (by decide) (by omega) (by omega) (fun h7 => ?_) (fun h7 => ?_)
    · refine V_iconst hx dX2_has_28 ?_
      refine V_zreturn hx dX2_has_29 (by first | omega | exact cif01 _) (by omega) (by omega) ?_
      exact ⟨by rw [vB_f (by rintro ⟨q, q0, q1, q2⟩; exact hJ q q0 q1 q2)], rfl, rfl⟩
    · exfalso; omega
  · rintro i _ hi0 hi1 hJ ih
    have hen := hP.2 i hi0 hi1
    refine V_iload_2 hx dX2_has_2 ?_
    refine V_aload_0 hx dX2_has_3 ?_
    refine V_getIx 1 hx hF flX2_21 dX2_has_4 rfl rfl (k22 hN) (fun r4 => ?_)
    refine V_icmp_ge (tgt := 28) hx dX2_has_7 (by decide) (by omega) (by omega) (fun h7 => ?_) (fun h7 => ?_)
    · exfalso; omega
    · refine V_aload_0 hx dX2_has_10 ?_
      refine V_getRe hx flX2_11 dX2_has_11 rfl (k22 hN) (hF.1 22 0 23 rfl) ?_
      refine V_iload_2 hx dX2_has_14 ?_
      refine V_aaload hx dX2_has_15 (k23 hN) (by unfold refK; omega) (by decide) (by omega) ?_
      refine V_aload_1 hx dX2_has_16 ?_
      refine V_acmp_ne (tgt := 22) hx dX2_has_17 (by decide) (by omega) (by omega) (fun h17 => ?_) (fun h17 => ?_)
      · refine V_iinc_2 hx (by first | exact nc_I | exact nc_R | exact nc_n) dX2_has_22 ?_
        refine V_goto (tgt := 2) hx dX2_has_25 (by decide) ?_
        exact ih () (fun q q0 q1 => by by_cases hq : q = i; (subst hq; omega); exact hJ q q0 (by omega))
      · refine V_iconst hx dX2_has_20 ?_
        refine V_zreturn hx dX2_has_21 (by first | omega | exact cif01 _) (by omega) (by omega) ?_
        exact ⟨by rw [vB_t ⟨i, hi0, hi1, by omega⟩], rfl, rfl⟩

set_option maxRecDepth 8000 in
theorem c_X2_letterOf {l : Launch} {d : Dd} {z : Nat} {N : Int} {I : Mm} {t : Int} (ht : 0 ≤ t ∧ t ≤ 255) : Cn l d z yX2_letterOf cX2_letterOf 1 (some .int) 0 0 0 0 [vI t] N I (pq (t / 4) N I) := by
  refine Cn.ofA [(vI t, false)] [some (vI t)] RX2 (by decide) rfl ⟨rfl, trivial⟩ (Nat.le_of_ble_eq_true rfl) rfl (fun x ed el hx hini => ?_)
  refine V_iload_0 hx dX2_letterOf_0 ?_
  refine V_iconst hx dX2_letterOf_1 ?_
  refine V_idiv hx dX2_letterOf_2 (by omega) (by omega) ?_
  refine V_ireturn hx dX2_letterOf_3 (by omega) (by omega) ?_
  exact ⟨rfl, rfl, rfl, by omega⟩

set_option maxRecDepth 8000 in
theorem c_X2_numberOf {l : Launch} {d : Dd} {z : Nat} {N : Int} {I : Mm} {t : Int} (ht : 0 ≤ t ∧ t ≤ 255) : Cn l d z yX2_numberOf cX2_numberOf 1 (some .int) 0 0 0 0 [vI t] N I (pq (t % 4 + 1) N I) := by
  refine Cn.ofA [(vI t, false)] [some (vI t)] RX2 (by decide) rfl ⟨rfl, trivial⟩ (Nat.le_of_ble_eq_true rfl) rfl (fun x ed el hx hini => ?_)
  refine V_iload_0 hx dX2_numberOf_0 ?_
  refine V_iconst hx dX2_numberOf_1 ?_
  refine V_irem hx dX2_numberOf_2 (by omega) (by omega) ?_
  refine V_iconst hx dX2_numberOf_3 ?_
  refine V_iadd hx dX2_numberOf_4 ?_
  refine V_ireturn hx dX2_numberOf_5 (by omega) (by omega) ?_
  exact ⟨rfl, rfl, rfl, by omega⟩

set_option maxRecDepth 8000 in
theorem c_X2_digits {l : Launch} {d : Dd} {z : Nat} {N : Int} {I : Mm} {t : Int} (ht : 0 ≤ t ∧ t ≤ 255) : Cn l d z yX2_digits cX2_digits 1 (some .int) 1 20 0 0 [vI t] N I (pq (tm t) N I) := by
  refine Cn.ofA [(vI t, false)] [some (vI t)] RX2 (by decide) rfl ⟨rfl, trivial⟩ (Nat.le_of_ble_eq_true rfl) rfl (fun x ed el hx hini => ?_)
  refine V_bipush hx dX2_digits_0 (by decide) ?_
  refine V_iload_0 hx dX2_digits_2 ?_
  refine V_s1Q hx el ed (c_X2_numberOf (by omega)) myX2_numberOf mlX2_33 dX2_digits_3 (by decide) (by omega) rfl (by first | exact Nat.le_of_ble_eq_true rfl | (simp only [List.map_cons, List.map_nil, List.sum_cons, List.sum_nil, vR_cat, cat_I, cat_L]; decide)) (fun r3 => ?_)
  refine V_imul hx dX2_digits_6 ?_
  refine V_iload_0 hx dX2_digits_7 ?_
  refine V_s1Q hx el ed (c_X2_letterOf (by omega)) myX2_letterOf mlX2_36 dX2_digits_8 (by decide) (by omega) rfl (by first | exact Nat.le_of_ble_eq_true rfl | (simp only [List.map_cons, List.map_nil, List.sum_cons, List.sum_nil, vR_cat, cat_I, cat_L]; decide)) (fun r8 => ?_)
  refine V_iadd hx dX2_digits_11 ?_
  refine V_iconst hx dX2_digits_12 ?_
  refine V_iadd hx dX2_digits_13 ?_
  refine V_ireturn hx dX2_digits_14 (by omega) (by omega) ?_
  exact ⟨rfl, rfl, rfl, by unfold tm; omega⟩

set_option maxRecDepth 8000 in
theorem c_X2_valueOf {l : Launch} {d : Dd} {z : Nat} {N : Int} {I : Mm} {a t : Int} (hN : 67 ≤ N) (hF : Fx I) (ha : shk N a (0, 9)) (ht : -1 ≤ t ∧ t ≤ 15) (hb : 0 ≤ vlF I a t ∧ vlF I a t ≤ 600000) : Cn l d z yX2_valueOf cX2_valueOf 2 (some .int) 1 21 0 0 [vR z a, vI t] N I (pq (vlF I a t) N I) := by
  refine Cn.ofA [(vR z a, false), (vI t, false)] [some (vR z a), some (vI t)] RX2 (by decide) rfl ⟨cR z a, rfl, trivial⟩ (Nat.le_of_ble_eq_true rfl) rfl (fun x ed el hx hini => ?_)
  refine V_iload_1 hx dX2_valueOf_0 ?_
  refine V_if_ge (tgt := 8) hx dX2_valueOf_1 (by decide) (by omega) (fun h1 => ?_) (fun h1 => ?_)
  · refine V_iload_1 hx dX2_valueOf_8 ?_
    refine V_s1Q hx el ed (c_X2_numberOf (by omega)) myX2_numberOf mlX2_33 dX2_valueOf_9 (by decide) (by omega) rfl (by first | exact Nat.le_of_ble_eq_true rfl | (simp only [List.map_cons, List.map_nil, List.sum_cons, List.sum_nil, vR_cat, cat_I, cat_L]; decide)) (fun r9 => ?_)
    refine V_aload_0 hx dX2_valueOf_12 ?_
    refine V_iload_1 hx dX2_valueOf_13 ?_
    refine V_s1Q hx el ed (c_X2_letterOf (by omega)) myX2_letterOf mlX2_36 dX2_valueOf_14 (by decide) (by omega) rfl (by first | exact Nat.le_of_ble_eq_true rfl | (simp only [List.map_cons, List.map_nil, List.sum_cons, List.sum_nil, vR_cat, cat_I, cat_L]; decide)) (fun r14 => ?_)
    refine V_v1Q hx el ed (c_X9_trait hF (by assumption) (by omega)) myX9_trait mlX2_46 dX2_valueOf_17 ⟨_, rfl, rfl⟩ ha (by decide) (by omega) rfl (by first | exact Nat.le_of_ble_eq_true rfl | (simp only [List.map_cons, List.map_nil, List.sum_cons, List.sum_nil, vR_cat, cat_I, cat_L]; decide)) (fun r17 => ?_)
    refine V_imul hx dX2_valueOf_20 ?_
    refine V_ireturn hx dX2_valueOf_21 (by omega) (by omega) ?_
    exact ⟨by unfold vlF; first | rw [cif_t (by omega)] | rw [cif_f (by omega)], rfl, rfl, by omega⟩
  · refine V_iconst hx dX2_valueOf_4 ?_
    refine V_goto (tgt := 21) hx dX2_valueOf_5 (by decide) ?_
    refine V_ireturn hx dX2_valueOf_21 (by omega) (by omega) ?_
    exact ⟨by unfold vlF; first | rw [cif_t (by omega)] | rw [cif_f (by omega)], rfl, rfl, by omega⟩

set_option maxRecDepth 8000 in
theorem c_X2_fits {l : Launch} {d : Dd} {z : Nat} {N : Int} {I : Mm} {t s : Int} (hN : 67 ≤ N) (hF : Fx I) (hP : PkC I N) (hW : PkW I) (ht : 0 ≤ t ∧ t ≤ 15) (hs : -1 ≤ s ∧ s ≤ 15) : Cn l d z yX2_fits cX2_fits 6 (some .boolean) 2 42 0 0 [vR z 22, vI t, vI s] N I (pv (vB (fitA I t s)) N I) := by
  refine Cn.ofA [(vR z 22, false), (vI t, false), (vI s, false)] [some (vR z 22), some (vI t), some (vI s), none, none, none] RX2 (by decide) rfl ⟨cR z 22, rfl, rfl, trivial⟩ (Nat.le_of_ble_eq_true rfl) rfl (fun x ed el hx hini => ?_)
  have hl := hP.1
  have hm : 1 ≤ max 1 (I 22 1) := by omega
  refine V_iconst hx dX2_fits_0 ?_
  refine V_istore_3 hx (by first | exact nc_I | exact nc_R | exact nc_n) dX2_fits_1 ?_
  refine loop_inv (α := Unit) 1 (max 1 (I 22 1)) hm (fun i _ => ∀ k : Int, 1 ≤ k → k < i → fitP I t s k) (fun i _ => V x z _ N I 0 0 2 [some (vR z 22), some (vI t), some (vI s), some (vI i), none, none] []) ?_ ?_ () (fun k a b => by omega)
  · rintro _ hJ
    refine V_iload_3 hx dX2_fits_2 ?_
    refine V_aload_0 hx dX2_fits_3 ?_
    refine V_getIx 1 hx hF flX2_21 dX2_fits_4 rfl rfl (k22 hN) (fun r4 => ?_)
    refine V_icmp_ge (tgt := 105) hx dX2_fits_7 (by decide) (by omega) (by omega) (fun h7 => ?_) (fun h7 => ?_)
    · refine V_iconst hx dX2_fits_105 ?_
      refine V_zreturn hx dX2_fits_106 (by first | omega | exact cif01 _) (by omega) (by omega) ?_
      exact ⟨by rw [vB_t (show fitA I t s from fun k k0 k1 => hJ k k0 (by omega))], rfl, rfl⟩
    · exfalso; omega
  · rintro i _ hi0 hi1 hJ ih
    have hea := hP.2 (i - 1) (by omega) (by omega)
    have heb := hP.2 i (by omega) (by omega)
    refine V_iload_3 hx dX2_fits_2 ?_
    refine V_aload_0 hx dX2_fits_3 ?_
    refine V_getIx 1 hx hF flX2_21 dX2_fits_4 rfl rfl (k22 hN) (fun r4 => ?_)
    refine V_icmp_ge (tgt := 105) hx dX2_fits_7 (by decide) (by omega) (by omega) (fun h7 => ?_) (fun h7 => ?_)
    · exfalso; omega
    · refine V_aload_0 hx dX2_fits_10 ?_
      refine V_getRe hx flX2_11 dX2_fits_11 rfl (k22 hN) (hF.1 22 0 23 rfl) ?_
      refine V_iload_3 hx dX2_fits_14 ?_
      refine V_iconst hx dX2_fits_15 ?_
      refine V_isub hx dX2_fits_16 ?_
      refine V_aaload hx dX2_fits_17 (k23 hN) (by unfold refK; omega) (by decide) (by omega) ?_
      refine V_iload_1 hx dX2_fits_18 ?_
      refine V_s2Q hx el ed (c_X2_valueOf hN hF (wdC hea.1 hea.2) (by omega) (vlF_b hW (by omega) (by omega))) myX2_valueOf mlX2_39 dX2_fits_19 (by decide) (by omega) rfl (by first | exact Nat.le_of_ble_eq_true rfl | (simp only [List.map_cons, List.map_nil, List.sum_cons, List.sum_nil, vR_cat, cat_I, cat_L]; decide)) (fun r19 => ?_)
      have hvat := vlF_b hW (i := i - 1) (t := t) (by omega) (by omega)
      refine V_aload_0 hx dX2_fits_22 ?_
      refine V_getRe hx flX2_11 dX2_fits_23 rfl (k22 hN) (hF.1 22 0 23 rfl) ?_
      refine V_iload_3 hx dX2_fits_26 ?_
      refine V_iconst hx dX2_fits_27 ?_
      refine V_isub hx dX2_fits_28 ?_
      refine V_aaload hx dX2_fits_29 (k23 hN) (by unfold refK; omega) (by decide) (by omega) ?_
      refine V_iload_2 hx dX2_fits_30 ?_
      refine V_s2Q hx el ed (c_X2_valueOf hN hF (wdC hea.1 hea.2) (by omega) (vlF_b hW (by omega) (by omega))) myX2_valueOf mlX2_39 dX2_fits_31 (by decide) (by omega) rfl (by first | exact Nat.le_of_ble_eq_true rfl | (simp only [List.map_cons, List.map_nil, List.sum_cons, List.sum_nil, vR_cat, cat_I, cat_L]; decide)) (fun r31 => ?_)
      have hvas := vlF_b hW (i := i - 1) (t := s) (by omega) (by omega)
      refine V_iadd hx dX2_fits_34 ?_
      refine V_istore_4 hx (by first | exact nc_I | exact nc_R | exact nc_n) dX2_fits_35 ?_
      refine V_aload_0 hx dX2_fits_37 ?_
      refine V_getRe hx flX2_11 dX2_fits_38 rfl (k22 hN) (hF.1 22 0 23 rfl) ?_
      refine V_iload_3 hx dX2_fits_41 ?_
      refine V_aaload hx dX2_fits_42 (k23 hN) (by unfold refK; omega) (by decide) (by omega) ?_
      refine V_iload_1 hx dX2_fits_43 ?_
      refine V_s2Q hx el ed (c_X2_valueOf hN hF (wdC heb.1 heb.2) (by omega) (vlF_b hW (by omega) (by omega))) myX2_valueOf mlX2_39 dX2_fits_44 (by decide) (by omega) rfl (by first | exact Nat.le_of_ble_eq_true rfl | (simp only [List.map_cons, List.map_nil, List.sum_cons, List.sum_nil, vR_cat, cat_I, cat_L]; decide)) (fun r44 => ?_)
      have hvbt := vlF_b hW (i := i) (t := t) (by omega) (by omega)
      refine V_aload_0 hx dX2_fits_47 ?_
      refine V_getRe hx flX2_11 dX2_fits_48 rfl (k22 hN) (hF.1 22 0 23 rfl) ?_
      refine V_iload_3 hx dX2_fits_51 ?_
      refine V_aaload hx dX2_fits_52 (k23 hN) (by unfold refK; omega) (by decide) (by omega) ?_
      refine V_iload_2 hx dX2_fits_53 ?_
      refine V_s2Q hx el ed (c_X2_valueOf hN hF (wdC heb.1 heb.2) (by omega) (vlF_b hW (by omega) (by omega))) myX2_valueOf mlX2_39 dX2_fits_54 (by decide) (by omega) rfl (by first | exact Nat.le_of_ble_eq_true rfl | (simp only [List.map_cons, List.map_nil, List.sum_cons, List.sum_nil, vR_cat, cat_I, cat_L]; decide)) (fun r54 => ?_)
      have hvbs := vlF_b hW (i := i) (t := s) (by omega) (by omega)
      refine V_iadd hx dX2_fits_57 ?_
      refine V_istore_5 hx (by first | exact nc_I | exact nc_R | exact nc_n) dX2_fits_58 ?_
      refine V_iload_4 hx dX2_fits_60 ?_
      refine V_iload_5 hx dX2_fits_62 ?_
      refine V_icmp_gt (tgt := 97) hx dX2_fits_64 (by decide) (by omega) (by omega) (fun h64 => ?_) (fun h64 => ?_)
      · refine V_iconst hx dX2_fits_97 ?_
        refine V_zreturn hx dX2_fits_98 (by first | omega | exact cif01 _) (by omega) (by omega) ?_
        exact ⟨by rw [vB_f (fun q : fitA I t s => by have q1 := q i hi0 (by omega); unfold fitP vsF at q1; omega)], rfl, rfl⟩
      · refine V_iload_4 hx dX2_fits_67 ?_
        refine V_iload_5 hx dX2_fits_69 ?_
        refine V_icmp_ne (tgt := 99) hx dX2_fits_71 (by decide) (by omega) (by omega) (fun h71 => ?_) (fun h71 => ?_)
        · refine V_iinc_3 hx (by first | exact nc_I | exact nc_R | exact nc_n) dX2_fits_99 ?_
          refine V_goto (tgt := 2) hx dX2_fits_102 (by decide) ?_
          refine V_drop_4 ?_
          refine V_drop_5 ?_
          refine ih () (fun k k0 k1 => ?_)
          by_cases hk : k = i
          · subst hk; unfold fitP vsF; omega
          · exact hJ k k0 (by omega)
        · refine V_aload_0 hx dX2_fits_74 ?_
          refine V_getRe hx flX2_11 dX2_fits_75 rfl (k22 hN) (hF.1 22 0 23 rfl) ?_
          refine V_iload_3 hx dX2_fits_78 ?_
          refine V_iconst hx dX2_fits_79 ?_
          refine V_isub hx dX2_fits_80 ?_
          refine V_aaload hx dX2_fits_81 (k23 hN) (by unfold refK; omega) (by decide) (by omega) ?_
          refine V_getIx 0 hx hF flX2_43 dX2_fits_82 rfl rfl (wdC hea.1 hea.2) (fun r82 => ?_)
          refine V_aload_0 hx dX2_fits_85 ?_
          refine V_getRe hx flX2_11 dX2_fits_86 rfl (k22 hN) (hF.1 22 0 23 rfl) ?_
          refine V_iload_3 hx dX2_fits_89 ?_
          refine V_aaload hx dX2_fits_90 (k23 hN) (by unfold refK; omega) (by decide) (by omega) ?_
          refine V_getIx 0 hx hF flX2_43 dX2_fits_91 rfl rfl (wdC heb.1 heb.2) (fun r91 => ?_)
          refine V_icmp_le (tgt := 99) hx dX2_fits_94 (by decide) (by omega) (by omega) (fun h94 => ?_) (fun h94 => ?_)
          · refine V_iinc_3 hx (by first | exact nc_I | exact nc_R | exact nc_n) dX2_fits_99 ?_
            refine V_goto (tgt := 2) hx dX2_fits_102 (by decide) ?_
            refine V_drop_4 ?_
            refine V_drop_5 ?_
            refine ih () (fun k k0 k1 => ?_)
            by_cases hk : k = i
            · subst hk; unfold fitP vsF; omega
            · exact hJ k k0 (by omega)
          · refine V_iconst hx dX2_fits_97 ?_
            refine V_zreturn hx dX2_fits_98 (by first | omega | exact cif01 _) (by omega) (by omega) ?_
            exact ⟨by rw [vB_f (fun q : fitA I t s => by have q1 := q i hi0 (by omega); unfold fitP vsF at q1; omega)], rfl, rfl⟩

set_option maxRecDepth 8000 in
theorem c_X2_firstRule {l : Launch} {d : Dd} {z : Nat} {N : Int} {I : Mm} (hN : 67 ≤ N) (hF : Fx I) (hP : PkC I N) (hW : PkW I) : Cn l d z yX2_firstRule cX2_firstRule 3 (some .int) 3 67 0 0 [vR z 22] N I (pq (frF I) N I) := by
  refine Cn.ofA [(vR z 22, false)] [some (vR z 22), none, none] RX2 (by decide) rfl ⟨cR z 22, trivial⟩ (Nat.le_of_ble_eq_true rfl) rfl (fun x ed el hx hini => ?_)
  refine V_iconst hx dX2_firstRule_0 ?_
  refine V_istore_1 hx (by first | exact nc_I | exact nc_R | exact nc_n) dX2_firstRule_1 ?_
  refine loop_inv (α := Unit) 0 16 (by decide) (fun i _ => ∀ j : Int, 0 ≤ j → j < i → ¬ fitA I j (-1)) (fun i _ => V x z _ N I 0 0 2 [some (vR z 22), some (vI i), none] []) ?_ ?_ () (fun j a b => by omega)
  · rintro _ hJ
    have f1 := fstA_none (p := (fun a => fitA I a (-1))) (n := 16) (fun j j0 j1 => hJ j j0 (by omega))
    refine V_iload_1 hx dX2_firstRule_2 ?_
    refine V_bipush hx dX2_firstRule_3 (by decide) ?_
    refine V_icmp_ge (tgt := 28) hx dX2_firstRule_5 (by decide) (by omega) (by omega) (fun h5 => ?_) (fun h5 => ?_)
    · refine V_iconst hx dX2_firstRule_28 ?_
      refine V_istore_1 hx (by first | exact nc_I | exact nc_R | exact nc_n) dX2_firstRule_29 ?_
      refine loop_inv (α := Unit) 0 16 (by decide) (fun i _ => ∀ j : Int, 0 ≤ j → j < 16 * i → ¬ fitA I (j / 16) (j % 16)) (fun i _ => V x z _ N I 0 0 30 [some (vR z 22), some (vI i), none] []) ?_ ?_ () (fun j a b => by omega)
      · rintro _ hJ2
        refine V_iload_1 hx dX2_firstRule_30 ?_
        refine V_bipush hx dX2_firstRule_31 (by decide) ?_
        refine V_icmp_ge (tgt := 78) hx dX2_firstRule_33 (by decide) (by omega) (by omega) (fun h33 => ?_) (fun h33 => ?_)
        · refine V_bipush hx dX2_firstRule_78 (by decide) ?_
          refine V_ireturn hx dX2_firstRule_80 (by omega) (by omega) ?_
          have f2 := fstA_none (p := (fun a => fitA I (a / 16) (a % 16))) (n := 256) (fun j j0 j1 => hJ2 j j0 (by omega))
          exact ⟨by unfold frF; rw [f1, f2, cif_f (by omega), cif_f (by omega)], rfl, rfl, by unfold frF; rw [f1, f2, cif_f (by omega), cif_f (by omega)]; omega⟩
        · exfalso; omega
      · rintro i _ hi0 hi1 hJ2 ih2
        refine V_iload_1 hx dX2_firstRule_30 ?_
        refine V_bipush hx dX2_firstRule_31 (by decide) ?_
        refine V_icmp_ge (tgt := 78) hx dX2_firstRule_33 (by decide) (by omega) (by omega) (fun h33 => ?_) (fun h33 => ?_)
        · exfalso; omega
        · refine V_iconst hx dX2_firstRule_36 ?_
          refine V_istore_2 hx (by first | exact nc_I | exact nc_R | exact nc_n) dX2_firstRule_37 ?_
          refine loop_inv (α := Unit) 0 16 (by decide) (fun q _ => ∀ j : Int, 0 ≤ j → j < 16 * i + q → ¬ fitA I (j / 16) (j % 16)) (fun q _ => V x z _ N I 0 0 38 [some (vR z 22), some (vI i), some (vI q)] []) ?_ ?_ () (fun j a b => hJ2 j a (by omega))
          · rintro _ hJ3
            refine V_iload_2 hx dX2_firstRule_38 ?_
            refine V_bipush hx dX2_firstRule_39 (by decide) ?_
            refine V_icmp_ge (tgt := 72) hx dX2_firstRule_41 (by decide) (by omega) (by omega) (fun h41 => ?_) (fun h41 => ?_)
            · refine V_iinc_1 hx (by first | exact nc_I | exact nc_R | exact nc_n) dX2_firstRule_72 ?_
              refine V_goto (tgt := 30) hx dX2_firstRule_75 (by decide) ?_
              refine V_drop_2 ?_
              exact ih2 () (fun j a b => hJ3 j a (by omega))
            · exfalso; omega
          · rintro q _ hq0 hq1 hJ3 ih3
            refine V_iload_2 hx dX2_firstRule_38 ?_
            refine V_bipush hx dX2_firstRule_39 (by decide) ?_
            refine V_icmp_ge (tgt := 72) hx dX2_firstRule_41 (by decide) (by omega) (by omega) (fun h41 => ?_) (fun h41 => ?_)
            · exfalso; omega
            · refine V_aload_0 hx dX2_firstRule_44 ?_
              refine V_iload_1 hx dX2_firstRule_45 ?_
              refine V_iload_2 hx dX2_firstRule_46 ?_
              refine V_v2P hx el ed (c_X2_fits hN hF hP hW (by omega) (by omega)) myX2_fits mlX2_25 dX2_firstRule_47 ⟨_, rfl, rfl⟩ (k22 hN) (by decide) (by omega) rfl (by first | exact Nat.le_of_ble_eq_true rfl | (simp only [List.map_cons, List.map_nil, List.sum_cons, List.sum_nil, vR_cat, cat_I, cat_L]; decide)) ?_
              refine V_ifB_eq (tgt := 66) hx dX2_firstRule_50 (by decide) (fun h50 => ?_) (fun h50 => ?_)
              · refine V_iinc_2 hx (by first | exact nc_I | exact nc_R | exact nc_n) dX2_firstRule_66 ?_
                refine V_goto (tgt := 38) hx dX2_firstRule_69 (by decide) ?_
                exact ih3 () (fun j a b => by by_cases hj : j = 16 * i + q; (subst hj; rw [show (16 * i + q) / 16 = i by omega, show (16 * i + q) % 16 = q by omega]; assumption); exact hJ3 j a (by omega))
              · refine V_bipush hx dX2_firstRule_53 (by decide) ?_
                refine V_iload_1 hx dX2_firstRule_55 ?_
                refine V_s1Q hx el ed (c_X2_digits (by omega)) myX2_digits mlX2_29 dX2_firstRule_56 (by decide) (by omega) rfl (by first | exact Nat.le_of_ble_eq_true rfl | (simp only [List.map_cons, List.map_nil, List.sum_cons, List.sum_nil, vR_cat, cat_I, cat_L]; decide)) (fun r56 => ?_)
                refine V_imul hx dX2_firstRule_59 ?_
                refine V_iload_2 hx dX2_firstRule_60 ?_
                refine V_s1Q hx el ed (c_X2_digits (by omega)) myX2_digits mlX2_29 dX2_firstRule_61 (by decide) (by omega) rfl (by first | exact Nat.le_of_ble_eq_true rfl | (simp only [List.map_cons, List.map_nil, List.sum_cons, List.sum_nil, vR_cat, cat_I, cat_L]; decide)) (fun r61 => ?_)
                refine V_iadd hx dX2_firstRule_64 ?_
                refine V_ireturn hx dX2_firstRule_65 (by omega) (by omega) ?_
                have f2 := fstA_some (p := (fun a => fitA I (a / 16) (a % 16))) (n := 256) (i := 16 * i + q) (by omega) (by rw [show (16 * i + q) / 16 = i by omega, show (16 * i + q) % 16 = q by omega]; assumption) hJ3 (by omega)
                exact ⟨by unfold frF; rw [f1, f2, cif_f (by omega), cif_t (by omega), show (16 * i + q) / 16 = i by omega, show (16 * i + q) % 16 = q by omega], rfl, rfl, by unfold frF; rw [f1, f2, cif_f (by omega), cif_t (by omega)]; unfold tm; omega⟩
    · exfalso; omega
  · rintro i _ hi0 hi1 hJ ih
    refine V_iload_1 hx dX2_firstRule_2 ?_
    refine V_bipush hx dX2_firstRule_3 (by decide) ?_
    refine V_icmp_ge (tgt := 28) hx dX2_firstRule_5 (by decide) (by omega) (by omega) (fun h5 => ?_) (fun h5 => ?_)
    · exfalso; omega
    · refine V_aload_0 hx dX2_firstRule_8 ?_
      refine V_iload_1 hx dX2_firstRule_9 ?_
      refine V_iconst hx dX2_firstRule_10 ?_
      refine V_v2P hx el ed (c_X2_fits hN hF hP hW (by omega) (by omega)) myX2_fits mlX2_25 dX2_firstRule_11 ⟨_, rfl, rfl⟩ (k22 hN) (by decide) (by omega) rfl (by first | exact Nat.le_of_ble_eq_true rfl | (simp only [List.map_cons, List.map_nil, List.sum_cons, List.sum_nil, vR_cat, cat_I, cat_L]; decide)) ?_
      refine V_ifB_eq (tgt := 22) hx dX2_firstRule_14 (by decide) (fun h14 => ?_) (fun h14 => ?_)
      · refine V_iinc_1 hx (by first | exact nc_I | exact nc_R | exact nc_n) dX2_firstRule_22 ?_
        refine V_goto (tgt := 2) hx dX2_firstRule_25 (by decide) ?_
        exact ih () (fun j a b => by by_cases hj : j = i; (subst hj; assumption); exact hJ j a (by omega))
      · refine V_iload_1 hx dX2_firstRule_17 ?_
        refine V_s1Q hx el ed (c_X2_digits (by omega)) myX2_digits mlX2_29 dX2_firstRule_18 (by decide) (by omega) rfl (by first | exact Nat.le_of_ble_eq_true rfl | (simp only [List.map_cons, List.map_nil, List.sum_cons, List.sum_nil, vR_cat, cat_I, cat_L]; decide)) (fun r18 => ?_)
        refine V_ireturn hx dX2_firstRule_21 (by omega) (by omega) ?_
        have f1 := fstA_some (p := (fun a => fitA I a (-1))) (n := 16) hi0 (by assumption) hJ (by omega)
        exact ⟨by unfold frF; rw [f1, cif_t (by omega)], rfl, rfl, by unfold frF; rw [f1, cif_t (by omega)]; unfold tm; omega⟩

