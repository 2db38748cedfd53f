set_option maxRecDepth 8000 in
theorem c_X10_heaps {l : Launch} {d : Dd} {z : Nat} {N : Int} {I : Mm} {s lane i0 n k : Int}  (hI : Inv I N) (hs : -2147483648 ≤ s ∧ s ≤ 2147483647) (hlane : -2147483648 ≤ lane ∧ lane ≤ 2147483647) (hi0 : -2147483648 ≤ i0 ∧ i0 ≤ 2147483647) (hn : -2147483648 ≤ n ∧ n ≤ 2147483647) (hk : -2147483648 ≤ k ∧ k ≤ 2147483647) : Cn l d z yX10_heaps cX10_heaps 7 (some .int) 3 74 0 0 [vR z 0, vI s, vI lane, vI i0, vI n, vI k] N I (pI (fun r N' I' => r = aHeaps I s lane i0 n k ∧ N' = N ∧ Fx I' ∧ (∀ a q : Int, a ≠ 18 → a ≠ 19 → a ≠ 20 → a ≠ 21 → I' a q = I a q))) := by
  refine Cn.ofA [(vR z 0, false), (vI s, false), (vI lane, false), (vI i0, false), (vI n, false), (vI k, false)] [some (vR z 0), some (vI s), some (vI lane), some (vI i0), some (vI n), some (vI k), none] RX10 (by decide) rfl ⟨cR z 0, rfl, rfl, rfl, rfl, rfl, trivial⟩ (Nat.le_of_ble_eq_true rfl) rfl (fun x ed el hx hini => ?_)
  have hN := hI.nb.1
  have hF := hI.fx
  have hnb := hI.nb
  have hmy := hI.n
  have hpo := hI.po
  have hsn := hI.sn
  obtain ⟨p1, p2, p3, p4, p5, p6, p7, p8, p9, p10⟩ := hpo
  refine V_iload_5 hx dX10_heaps_0 ?_
  refine V_iconst hx dX10_heaps_2 ?_
  refine V_icmp_eq (tgt := 27) hx dX10_heaps_3 (by decide) (by omega) (by omega) (fun h3 => ?_) (fun h3 => ?_)
  · refine V_aload_0 hx dX10_heaps_27 ?_
    refine V_iload_1 hx dX10_heaps_28 ?_
    refine V_iload_2 hx dX10_heaps_29 ?_
    refine V_iload_3 hx dX10_heaps_30 ?_
    refine V_iload_4 hx dX10_heaps_31 ?_
    refine V_v4I hx el ed (c_X10_takeRanks hN hF hI.sh (by omega) (by omega) (by omega) (by omega)) myX10_takeRanks mlX10_262 dX10_heaps_33 ⟨_, rfl, rfl⟩ (k0 hN) (by decide) (by omega) rfl (by first | exact Nat.le_of_ble_eq_true rfl | (simp only [List.map_cons, List.map_nil, List.sum_cons, List.sum_nil, vR_cat, cat_I, cat_L]; decide)) (fun r N1 I1 ⟨eN, hF, hfr, er, hok⟩ => ?_)
    have hv := tk_v I s lane i0 n
    have hN : 67 ≤ N1 := by omega
    unfold okA at hv
    refine V_istore_6 hx (by first | exact nc_I | exact nc_R | exact nc_n) dX10_heaps_36 ?_
    refine V_iload_6 hx dX10_heaps_38 ?_
    refine V_if_ge (tgt := 48) hx dX10_heaps_40 (by decide) (by omega) (fun h40 => ?_) (fun h40 => ?_)
    · have hok := hok (by omega)
      have hH : HpC I1 := ⟨by omega, fun q q0 q1 => by have := hok.2 q q0 (by omega); omega⟩
      have e18 := hok.1
      refine V_aload_0 hx dX10_heaps_48 ?_
      refine V_getRe hx flX10_67 dX10_heaps_49 rfl (k0 hN) (hF.1 0 9 18 rfl) ?_
      refine V_iload_5 hx dX10_heaps_52 ?_
      refine V_v1Q hx el ed (c_X0_outOfOrder hN hF hH (by omega)) myX0_outOfOrder mlX10_265 dX10_heaps_54 ⟨_, rfl, rfl⟩ (k18 hN) (by decide) (by omega) rfl (by first | exact Nat.le_of_ble_eq_true rfl | (simp only [List.map_cons, List.map_nil, List.sum_cons, List.sum_nil, vR_cat, cat_I, cat_L]; decide)) (fun r54 => ?_)
      refine V_ireturn hx dX10_heaps_57 (by omega) (by omega) ?_
      rcases hv with ⟨v1, v2⟩ | ⟨v1, v2, v3⟩ | ⟨v1, v2, v3, v4⟩
      · first
        | (exfalso; omega)
        | (refine ⟨_, rfl, ?_, eN, hF, fun a q h1 h2 _ _ => hfr a q h2 (by omega)⟩
           unfold aHeaps
           rw [cif_f (by omega)]; omega)
      · first
        | (exfalso; omega)
        | (refine ⟨_, rfl, ?_, eN, hF, fun a q h1 h2 _ _ => hfr a q h2 (by omega)⟩
           unfold aHeaps
           rw [cif_t (by omega), cif_t (by omega), ← heaps_eq (g := itm I s i0) (by omega) (by omega) (fun q q0 q1 => (hok.2 q q0 q1).2), e18]
           exact pr_c (fun a b a0 ab b1 => by rw [(hok.2 a a0 (by omega)).1, (hok.2 b (by omega) (by omega)).1]))
      · first
        | (exfalso; omega)
        | (refine ⟨_, rfl, ?_, eN, hF, fun a q h1 h2 _ _ => hfr a q h2 (by omega)⟩
           unfold aHeaps
           rw [cif_t (by omega), cif_f v2]; omega)
    · refine V_iload_6 hx dX10_heaps_43 ?_
      refine V_goto (tgt := 57) hx dX10_heaps_45 (by decide) ?_
      refine V_ireturn hx dX10_heaps_57 (by omega) (by omega) ?_
      rcases hv with ⟨v1, v2⟩ | ⟨v1, v2, v3⟩ | ⟨v1, v2, v3, v4⟩
      · first
        | (exfalso; omega)
        | (refine ⟨_, rfl, ?_, eN, hF, fun a q h1 h2 _ _ => hfr a q h2 (by omega)⟩
           unfold aHeaps
           rw [cif_f (by omega)]; omega)
      · first
        | (exfalso; omega)
        | (refine ⟨_, rfl, ?_, eN, hF, fun a q h1 h2 _ _ => hfr a q h2 (by omega)⟩
           unfold aHeaps
           rw [cif_t (by omega), cif_t (by omega), ← heaps_eq (g := itm I s i0) (by omega) (by omega) (fun q q0 q1 => (hok.2 q q0 q1).2), e18]
           exact pr_c (fun a b a0 ab b1 => by rw [(hok.2 a a0 (by omega)).1, (hok.2 b (by omega) (by omega)).1]))
      · first
        | (exfalso; omega)
        | (refine ⟨_, rfl, ?_, eN, hF, fun a q h1 h2 _ _ => hfr a q h2 (by omega)⟩
           unfold aHeaps
           rw [cif_t (by omega), cif_f v2]; omega)
  · refine V_iload_5 hx dX10_heaps_6 ?_
    refine V_iconst hx dX10_heaps_8 ?_
    refine V_icmp_eq (tgt := 27) hx dX10_heaps_9 (by decide) (by omega) (by omega) (fun h9 => ?_) (fun h9 => ?_)
    · refine V_aload_0 hx dX10_heaps_27 ?_
      refine V_iload_1 hx dX10_heaps_28 ?_
      refine V_iload_2 hx dX10_heaps_29 ?_
      refine V_iload_3 hx dX10_heaps_30 ?_
      refine V_iload_4 hx dX10_heaps_31 ?_
      refine V_v4I hx el ed (c_X10_takeRanks hN hF hI.sh (by omega) (by omega) (by omega) (by omega)) myX10_takeRanks mlX10_262 dX10_heaps_33 ⟨_, rfl, rfl⟩ (k0 hN) (by decide) (by omega) rfl (by first | exact Nat.le_of_ble_eq_true rfl | (simp only [List.map_cons, List.map_nil, List.sum_cons, List.sum_nil, vR_cat, cat_I, cat_L]; decide)) (fun r N1 I1 ⟨eN, hF, hfr, er, hok⟩ => ?_)
      have hv := tk_v I s lane i0 n
      have hN : 67 ≤ N1 := by omega
      unfold okA at hv
      refine V_istore_6 hx (by first | exact nc_I | exact nc_R | exact nc_n) dX10_heaps_36 ?_
      refine V_iload_6 hx dX10_heaps_38 ?_
      refine V_if_ge (tgt := 48) hx dX10_heaps_40 (by decide) (by omega) (fun h40 => ?_) (fun h40 => ?_)
      · have hok := hok (by omega)
        have hH : HpC I1 := ⟨by omega, fun q q0 q1 => by have := hok.2 q q0 (by omega); omega⟩
        have e18 := hok.1
        refine V_aload_0 hx dX10_heaps_48 ?_
        refine V_getRe hx flX10_67 dX10_heaps_49 rfl (k0 hN) (hF.1 0 9 18 rfl) ?_
        refine V_iload_5 hx dX10_heaps_52 ?_
        refine V_v1Q hx el ed (c_X0_outOfOrder hN hF hH (by omega)) myX0_outOfOrder mlX10_265 dX10_heaps_54 ⟨_, rfl, rfl⟩ (k18 hN) (by decide) (by omega) rfl (by first | exact Nat.le_of_ble_eq_true rfl | (simp only [List.map_cons, List.map_nil, List.sum_cons, List.sum_nil, vR_cat, cat_I, cat_L]; decide)) (fun r54 => ?_)
        refine V_ireturn hx dX10_heaps_57 (by omega) (by omega) ?_
        rcases hv with ⟨v1, v2⟩ | ⟨v1, v2, v3⟩ | ⟨v1, v2, v3, v4⟩
        · first
          | (exfalso; omega)
          | (refine ⟨_, rfl, ?_, eN, hF, fun a q h1 h2 _ _ => hfr a q h2 (by omega)⟩
             unfold aHeaps
             rw [cif_f (by omega)]; omega)
        · first
          | (exfalso; omega)
          | (refine ⟨_, rfl, ?_, eN, hF, fun a q h1 h2 _ _ => hfr a q h2 (by omega)⟩
             unfold aHeaps
             rw [cif_t (by omega), cif_t (by omega), ← heaps_eq (g := itm I s i0) (by omega) (by omega) (fun q q0 q1 => (hok.2 q q0 q1).2), e18]
             exact pr_c (fun a b a0 ab b1 => by rw [(hok.2 a a0 (by omega)).1, (hok.2 b (by omega) (by omega)).1]))
        · first
          | (exfalso; omega)
          | (refine ⟨_, rfl, ?_, eN, hF, fun a q h1 h2 _ _ => hfr a q h2 (by omega)⟩
             unfold aHeaps
             rw [cif_t (by omega), cif_f v2]; omega)
      · refine V_iload_6 hx dX10_heaps_43 ?_
        refine V_goto (tgt := 57) hx dX10_heaps_45 (by decide) ?_
        refine V_ireturn hx dX10_heaps_57 (by omega) (by omega) ?_
        rcases hv with ⟨v1, v2⟩ | ⟨v1, v2, v3⟩ | ⟨v1, v2, v3, v4⟩
        · first
          | (exfalso; omega)
          | (refine ⟨_, rfl, ?_, eN, hF, fun a q h1 h2 _ _ => hfr a q h2 (by omega)⟩
             unfold aHeaps
             rw [cif_f (by omega)]; omega)
        · first
          | (exfalso; omega)
          | (refine ⟨_, rfl, ?_, eN, hF, fun a q h1 h2 _ _ => hfr a q h2 (by omega)⟩
             unfold aHeaps
             rw [cif_t (by omega), cif_t (by omega), ← heaps_eq (g := itm I s i0) (by omega) (by omega) (fun q q0 q1 => (hok.2 q q0 q1).2), e18]
             exact pr_c (fun a b a0 ab b1 => by rw [(hok.2 a a0 (by omega)).1, (hok.2 b (by omega) (by omega)).1]))
        · first
          | (exfalso; omega)
          | (refine ⟨_, rfl, ?_, eN, hF, fun a q h1 h2 _ _ => hfr a q h2 (by omega)⟩
             unfold aHeaps
             rw [cif_t (by omega), cif_f v2]; omega)
    · refine V_iload_5 hx dX10_heaps_12 ?_
      refine V_iconst hx dX10_heaps_14 ?_
      refine V_icmp_eq (tgt := 27) hx dX10_heaps_15 (by decide) (by omega) (by omega) (fun h15 => ?_) (fun h15 => ?_)
      · refine V_aload_0 hx dX10_heaps_27 ?_
        refine V_iload_1 hx dX10_heaps_28 ?_
        refine V_iload_2 hx dX10_heaps_29 ?_
        refine V_iload_3 hx dX10_heaps_30 ?_
        refine V_iload_4 hx dX10_heaps_31 ?_
        refine V_v4I hx el ed (c_X10_takeRanks hN hF hI.sh (by omega) (by omega) (by omega) (by omega)) myX10_takeRanks mlX10_262 dX10_heaps_33 ⟨_, rfl, rfl⟩ (k0 hN) (by decide) (by omega) rfl (by first | exact Nat.le_of_ble_eq_true rfl | (simp only [List.map_cons, List.map_nil, List.sum_cons, List.sum_nil, vR_cat, cat_I, cat_L]; decide)) (fun r N1 I1 ⟨eN, hF, hfr, er, hok⟩ => ?_)
        have hv := tk_v I s lane i0 n
        have hN : 67 ≤ N1 := by omega
        unfold okA at hv
        refine V_istore_6 hx (by first | exact nc_I | exact nc_R | exact nc_n) dX10_heaps_36 ?_
        refine V_iload_6 hx dX10_heaps_38 ?_
        refine V_if_ge (tgt := 48) hx dX10_heaps_40 (by decide) (by omega) (fun h40 => ?_) (fun h40 => ?_)
        · have hok := hok (by omega)
          have hH : HpC I1 := ⟨by omega, fun q q0 q1 => by have := hok.2 q q0 (by omega); omega⟩
          have e18 := hok.1
          refine V_aload_0 hx dX10_heaps_48 ?_
          refine V_getRe hx flX10_67 dX10_heaps_49 rfl (k0 hN) (hF.1 0 9 18 rfl) ?_
          refine V_iload_5 hx dX10_heaps_52 ?_
          refine V_v1Q hx el ed (c_X0_outOfOrder hN hF hH (by omega)) myX0_outOfOrder mlX10_265 dX10_heaps_54 ⟨_, rfl, rfl⟩ (k18 hN) (by decide) (by omega) rfl (by first | exact Nat.le_of_ble_eq_true rfl | (simp only [List.map_cons, List.map_nil, List.sum_cons, List.sum_nil, vR_cat, cat_I, cat_L]; decide)) (fun r54 => ?_)
          refine V_ireturn hx dX10_heaps_57 (by omega) (by omega) ?_
          rcases hv with ⟨v1, v2⟩ | ⟨v1, v2, v3⟩ | ⟨v1, v2, v3, v4⟩
          · first
            | (exfalso; omega)
            | (refine ⟨_, rfl, ?_, eN, hF, fun a q h1 h2 _ _ => hfr a q h2 (by omega)⟩
               unfold aHeaps
               rw [cif_f (by omega)]; omega)
          · first
            | (exfalso; omega)
            | (refine ⟨_, rfl, ?_, eN, hF, fun a q h1 h2 _ _ => hfr a q h2 (by omega)⟩
               unfold aHeaps
               rw [cif_t (by omega), cif_t (by omega), ← heaps_eq (g := itm I s i0) (by omega) (by omega) (fun q q0 q1 => (hok.2 q q0 q1).2), e18]
               exact pr_c (fun a b a0 ab b1 => by rw [(hok.2 a a0 (by omega)).1, (hok.2 b (by omega) (by omega)).1]))
          · first
            | (exfalso; omega)
            | (refine ⟨_, rfl, ?_, eN, hF, fun a q h1 h2 _ _ => hfr a q h2 (by omega)⟩
               unfold aHeaps
               rw [cif_t (by omega), cif_f v2]; omega)
        · refine V_iload_6 hx dX10_heaps_43 ?_
          refine V_goto (tgt := 57) hx dX10_heaps_45 (by decide) ?_
          refine V_ireturn hx dX10_heaps_57 (by omega) (by omega) ?_
          rcases hv with ⟨v1, v2⟩ | ⟨v1, v2, v3⟩ | ⟨v1, v2, v3, v4⟩
          · first
            | (exfalso; omega)
            | (refine ⟨_, rfl, ?_, eN, hF, fun a q h1 h2 _ _ => hfr a q h2 (by omega)⟩
               unfold aHeaps
               rw [cif_f (by omega)]; omega)
          · first
            | (exfalso; omega)
            | (refine ⟨_, rfl, ?_, eN, hF, fun a q h1 h2 _ _ => hfr a q h2 (by omega)⟩
               unfold aHeaps
               rw [cif_t (by omega), cif_t (by omega), ← heaps_eq (g := itm I s i0) (by omega) (by omega) (fun q q0 q1 => (hok.2 q q0 q1).2), e18]
               exact pr_c (fun a b a0 ab b1 => by rw [(hok.2 a a0 (by omega)).1, (hok.2 b (by omega) (by omega)).1]))
          · first
            | (exfalso; omega)
            | (refine ⟨_, rfl, ?_, eN, hF, fun a q h1 h2 _ _ => hfr a q h2 (by omega)⟩
               unfold aHeaps
               rw [cif_t (by omega), cif_f v2]; omega)
      · refine V_iload_5 hx dX10_heaps_18 ?_
        refine V_bipush hx dX10_heaps_20 (by decide) ?_
        refine V_icmp_eq (tgt := 27) hx dX10_heaps_22 (by decide) (by omega) (by omega) (fun h22 => ?_) (fun h22 => ?_)
        · refine V_aload_0 hx dX10_heaps_27 ?_
          refine V_iload_1 hx dX10_heaps_28 ?_
          refine V_iload_2 hx dX10_heaps_29 ?_
          refine V_iload_3 hx dX10_heaps_30 ?_
          refine V_iload_4 hx dX10_heaps_31 ?_
          refine V_v4I hx el ed (c_X10_takeRanks hN hF hI.sh (by omega) (by omega) (by omega) (by omega)) myX10_takeRanks mlX10_262 dX10_heaps_33 ⟨_, rfl, rfl⟩ (k0 hN) (by decide) (by omega) rfl (by first | exact Nat.le_of_ble_eq_true rfl | (simp only [List.map_cons, List.map_nil, List.sum_cons, List.sum_nil, vR_cat, cat_I, cat_L]; decide)) (fun r N1 I1 ⟨eN, hF, hfr, er, hok⟩ => ?_)
          have hv := tk_v I s lane i0 n
          have hN : 67 ≤ N1 := by omega
          unfold okA at hv
          refine V_istore_6 hx (by first | exact nc_I | exact nc_R | exact nc_n) dX10_heaps_36 ?_
          refine V_iload_6 hx dX10_heaps_38 ?_
          refine V_if_ge (tgt := 48) hx dX10_heaps_40 (by decide) (by omega) (fun h40 => ?_) (fun h40 => ?_)
          · have hok := hok (by omega)
            have hH : HpC I1 := ⟨by omega, fun q q0 q1 => by have := hok.2 q q0 (by omega); omega⟩
            have e18 := hok.1
            refine V_aload_0 hx dX10_heaps_48 ?_
            refine V_getRe hx flX10_67 dX10_heaps_49 rfl (k0 hN) (hF.1 0 9 18 rfl) ?_
            refine V_iload_5 hx dX10_heaps_52 ?_
            refine V_v1Q hx el ed (c_X0_outOfOrder hN hF hH (by omega)) myX0_outOfOrder mlX10_265 dX10_heaps_54 ⟨_, rfl, rfl⟩ (k18 hN) (by decide) (by omega) rfl (by first | exact Nat.le_of_ble_eq_true rfl | (simp only [List.map_cons, List.map_nil, List.sum_cons, List.sum_nil, vR_cat, cat_I, cat_L]; decide)) (fun r54 => ?_)
            refine V_ireturn hx dX10_heaps_57 (by omega) (by omega) ?_
            rcases hv with ⟨v1, v2⟩ | ⟨v1, v2, v3⟩ | ⟨v1, v2, v3, v4⟩
            · first
              | (exfalso; omega)
              | (refine ⟨_, rfl, ?_, eN, hF, fun a q h1 h2 _ _ => hfr a q h2 (by omega)⟩
                 unfold aHeaps
                 rw [cif_f (by omega)]; omega)
            · first
              | (exfalso; omega)
              | (refine ⟨_, rfl, ?_, eN, hF, fun a q h1 h2 _ _ => hfr a q h2 (by omega)⟩
                 unfold aHeaps
                 rw [cif_t (by omega), cif_t (by omega), ← heaps_eq (g := itm I s i0) (by omega) (by omega) (fun q q0 q1 => (hok.2 q q0 q1).2), e18]
                 exact pr_c (fun a b a0 ab b1 => by rw [(hok.2 a a0 (by omega)).1, (hok.2 b (by omega) (by omega)).1]))
            · first
              | (exfalso; omega)
              | (refine ⟨_, rfl, ?_, eN, hF, fun a q h1 h2 _ _ => hfr a q h2 (by omega)⟩
                 unfold aHeaps
                 rw [cif_t (by omega), cif_f v2]; omega)
          · refine V_iload_6 hx dX10_heaps_43 ?_
            refine V_goto (tgt := 57) hx dX10_heaps_45 (by decide) ?_
            refine V_ireturn hx dX10_heaps_57 (by omega) (by omega) ?_
            rcases hv with ⟨v1, v2⟩ | ⟨v1, v2, v3⟩ | ⟨v1, v2, v3, v4⟩
            · first
              | (exfalso; omega)
              | (refine ⟨_, rfl, ?_, eN, hF, fun a q h1 h2 _ _ => hfr a q h2 (by omega)⟩
                 unfold aHeaps
                 rw [cif_f (by omega)]; omega)
            · first
              | (exfalso; omega)
              | (refine ⟨_, rfl, ?_, eN, hF, fun a q h1 h2 _ _ => hfr a q h2 (by omega)⟩
                 unfold aHeaps
                 rw [cif_t (by omega), cif_t (by omega), ← heaps_eq (g := itm I s i0) (by omega) (by omega) (fun q q0 q1 => (hok.2 q q0 q1).2), e18]
                 exact pr_c (fun a b a0 ab b1 => by rw [(hok.2 a a0 (by omega)).1, (hok.2 b (by omega) (by omega)).1]))
            · first
              | (exfalso; omega)
              | (refine ⟨_, rfl, ?_, eN, hF, fun a q h1 h2 _ _ => hfr a q h2 (by omega)⟩
                 unfold aHeaps
                 rw [cif_t (by omega), cif_f v2]; omega)
        · refine V_iconst hx dX10_heaps_25 ?_
          refine V_ireturn hx dX10_heaps_26 (by omega) (by omega) ?_
          exact ⟨_, rfl, by unfold aHeaps; rw [cif_f (by omega)], rfl, hF, fun _ _ _ _ _ _ => rfl⟩

set_option maxRecDepth 8000 in
theorem c_X10_cut {l : Launch} {d : Dd} {z : Nat} {N : Int} {I : Mm} {s lane i0 n k : Int}  (hI : Inv I N) (hs : -2147483648 ≤ s ∧ s ≤ 2147483647) (hlane : -2147483648 ≤ lane ∧ lane ≤ 2147483647) (hi0 : -2147483648 ≤ i0 ∧ i0 ≤ 2147483647) (hn : -2147483648 ≤ n ∧ n ≤ 2147483647) (hk : -2147483648 ≤ k ∧ k ≤ 2147483647) : Cn l d z yX10_cut cX10_cut 7 (some .int) 3 74 0 0 [vR z 0, vI s, vI lane, vI i0, vI n, vI k] N I (pI (fun r N' I' => r = aCut I s lane i0 n k ∧ N' = N ∧ Fx I' ∧ (∀ a q : Int, a ≠ 18 → a ≠ 19 → a ≠ 20 → a ≠ 21 → I' a q = I a q))) := by
  refine Cn.ofA [(vR z 0, false), (vI s, false), (vI lane, false), (vI i0, false), (vI n, false), (vI k, false)] [some (vR z 0), some (vI s), some (vI lane), some (vI i0), some (vI n), some (vI k), none] RX10 (by decide) rfl ⟨cR z 0, rfl, rfl, rfl, rfl, rfl, trivial⟩ (Nat.le_of_ble_eq_true rfl) rfl (fun x ed el hx hini => ?_)
  have hN := hI.nb.1
  have hF := hI.fx
  have hnb := hI.nb
  have hmy := hI.n
  have hpo := hI.po
  have hsn := hI.sn
  obtain ⟨p1, p2, p3, p4, p5, p6, p7, p8, p9, p10⟩ := hpo
  refine V_iload_5 hx dX10_cut_0 ?_
  refine V_iconst hx dX10_cut_2 ?_
  refine V_icmp_lt (tgt := 13) hx dX10_cut_3 (by decide) (by omega) (by omega) (fun h3 => ?_) (fun h3 => ?_)
  · refine V_iconst hx dX10_cut_13 ?_
    refine V_ireturn hx dX10_cut_14 (by omega) (by omega) ?_
    exact ⟨_, rfl, by unfold aCut; rw [cif_f (by omega)], rfl, hF, fun _ _ _ _ _ _ => rfl⟩
  · refine V_iload_5 hx dX10_cut_6 ?_
    refine V_bipush hx dX10_cut_8 (by decide) ?_
    refine V_icmp_le (tgt := 15) hx dX10_cut_10 (by decide) (by omega) (by omega) (fun h10 => ?_) (fun h10 => ?_)
    · refine V_aload_0 hx dX10_cut_15 ?_
      refine V_iload_1 hx dX10_cut_16 ?_
      refine V_iload_2 hx dX10_cut_17 ?_
      refine V_iload_3 hx dX10_cut_18 ?_
      refine V_iload_4 hx dX10_cut_19 ?_
      refine V_v4I hx el ed (c_X10_takeRanks hN hF hI.sh (by omega) (by omega) (by omega) (by omega)) myX10_takeRanks mlX10_262 dX10_cut_21 ⟨_, rfl, rfl⟩ (k0 hN) (by decide) (by omega) rfl (by first | exact Nat.le_of_ble_eq_true rfl | (simp only [List.map_cons, List.map_nil, List.sum_cons, List.sum_nil, vR_cat, cat_I, cat_L]; decide)) (fun r N1 I1 ⟨eN, hF, hfr, er, hok⟩ => ?_)
      have hv := tk_v I s lane i0 n
      have hN : 67 ≤ N1 := by omega
      unfold okA at hv
      refine V_istore_6 hx (by first | exact nc_I | exact nc_R | exact nc_n) dX10_cut_24 ?_
      refine V_iload_6 hx dX10_cut_26 ?_
      refine V_if_ge (tgt := 36) hx dX10_cut_28 (by decide) (by omega) (fun h28 => ?_) (fun h28 => ?_)
      · have hok := hok (by omega)
        have hH : HpC I1 := ⟨by omega, fun q q0 q1 => by have := hok.2 q q0 (by omega); omega⟩
        have e18 := hok.1
        refine V_aload_0 hx dX10_cut_36 ?_
        refine V_getRe hx flX10_67 dX10_cut_37 rfl (k0 hN) (hF.1 0 9 18 rfl) ?_
        refine V_iload_5 hx dX10_cut_40 ?_
        refine V_v1I hx el ed (c_X0_bestCut hN hF hH (by omega)) myX0_bestCut mlX10_268 dX10_cut_42 ⟨_, rfl, rfl⟩ (k18 hN) (by decide) (by omega) rfl (by first | exact Nat.le_of_ble_eq_true rfl | (simp only [List.map_cons, List.map_nil, List.sum_cons, List.sum_nil, vR_cat, cat_I, cat_L]; decide)) (fun r2 N2 I2 ⟨eN2, hF, er2, hf2⟩ => ?_)
        refine V_ireturn hx dX10_cut_45 (by omega) (by omega) ?_
        rcases hv with ⟨v1, v2⟩ | ⟨v1, v2, v3⟩ | ⟨v1, v2, v3, v4⟩
        · first
          | (exfalso; omega)
          | (refine ⟨_, rfl, ?_, eN, hF, fun a q h1 h2 _ _ => hfr a q h2 (by omega)⟩
             unfold aCut
             rw [cif_f (by omega)]; omega)
        · first
          | (exfalso; omega)
          | (refine ⟨_, rfl, ?_, eN2.trans eN, hF, fun a q h1 h2 h3 h4 => by rw [hf2 a q h3 h4]; exact hfr a q h2 (by omega)⟩
             unfold aCut
             rw [cif_t (by omega), cif_t (by omega), er2, e18, bcv_c (e := itm I s i0) (fun q q0 q1 => (hok.2 q q0 (by omega)).1) _ _ (by omega), bcv_eq _ (by omega) _ _ (by omega), show (k - 1).toNat + 1 = k.toNat by omega]
             rfl)
        · first
          | (exfalso; omega)
          | (refine ⟨_, rfl, ?_, eN, hF, fun a q h1 h2 _ _ => hfr a q h2 (by omega)⟩
             unfold aCut
             rw [cif_t (by omega), cif_f v2]; omega)
      · refine V_iload_6 hx dX10_cut_31 ?_
        refine V_goto (tgt := 45) hx dX10_cut_33 (by decide) ?_
        refine V_ireturn hx dX10_cut_45 (by omega) (by omega) ?_
        rcases hv with ⟨v1, v2⟩ | ⟨v1, v2, v3⟩ | ⟨v1, v2, v3, v4⟩
        · first
          | (exfalso; omega)
          | (refine ⟨_, rfl, ?_, eN, hF, fun a q h1 h2 _ _ => hfr a q h2 (by omega)⟩
             unfold aCut
             rw [cif_f (by omega)]; omega)
        · first
          | (exfalso; omega)
          | (refine ⟨_, rfl, ?_, eN2.trans eN, hF, fun a q h1 h2 h3 h4 => by rw [hf2 a q h3 h4]; exact hfr a q h2 (by omega)⟩
             unfold aCut
             rw [cif_t (by omega), cif_t (by omega), er2, e18, bcv_c (e := itm I s i0) (fun q q0 q1 => (hok.2 q q0 (by omega)).1) _ _ (by omega), bcv_eq _ (by omega) _ _ (by omega), show (k - 1).toNat + 1 = k.toNat by omega]
             rfl)
        · first
          | (exfalso; omega)
          | (refine ⟨_, rfl, ?_, eN, hF, fun a q h1 h2 _ _ => hfr a q h2 (by omega)⟩
             unfold aCut
             rw [cif_t (by omega), cif_f v2]; omega)
    · refine V_iconst hx dX10_cut_13 ?_
      refine V_ireturn hx dX10_cut_14 (by omega) (by omega) ?_
      exact ⟨_, rfl, by unfold aCut; rw [cif_f (by omega)], rfl, hF, fun _ _ _ _ _ _ => rfl⟩

set_option maxRecDepth 8000 in
theorem c_X10_found {l : Launch} {d : Dd} {z : Nat} {N : Int} {I : Mm} {s lane i0 n : Int}  (hI : Inv I N) (hs : -2147483648 ≤ s ∧ s ≤ 2147483647) (hlane : -2147483648 ≤ lane ∧ lane ≤ 2147483647) (hi0 : -2147483648 ≤ i0 ∧ i0 ≤ 2147483647) (hn : -2147483648 ≤ n ∧ n ≤ 2147483647) : Cn l d z yX10_found cX10_found 6 (some .int) 4 89 0 0 [vR z 0, vI s, vI lane, vI i0, vI n] N I (pI (fun r N' I' => r = aFound I s lane i0 n ∧ N' = N ∧ Fx I' ∧ (∀ a q : Int, a ≠ 22 → a ≠ 23 → a ≠ 24 → I' a q = I a q))) := by
  refine Cn.ofA [(vR z 0, false), (vI s, false), (vI lane, false), (vI i0, false), (vI n, false)] [some (vR z 0), some (vI s), some (vI lane), some (vI i0), some (vI n), none] RX10 (by decide) rfl ⟨cR z 0, rfl, rfl, rfl, rfl, trivial⟩ (Nat.le_of_ble_eq_true rfl) rfl (fun x ed el hx hini => ?_)
  have hN := hI.nb.1
  have hF := hI.fx
  have hnb := hI.nb
  have hmy := hI.n
  have hpo := hI.po
  have hsn := hI.sn
  obtain ⟨p1, p2, p3, p4, p5, p6, p7, p8, p9, p10⟩ := hpo
  refine V_iload_4 hx dX10_found_0 ?_
  refine V_iconst hx dX10_found_2 ?_
  refine V_icmp_lt (tgt := 13) hx dX10_found_3 (by decide) (by omega) (by omega) (fun h3 => ?_) (fun h3 => ?_)
  · refine V_iconst hx dX10_found_13 ?_
    refine V_ireturn hx dX10_found_14 (by omega) (by omega) ?_
    exact ⟨_, rfl, by unfold aFound; rw [cif_f (by omega)], rfl, hF, fun _ _ _ _ _ => rfl⟩
  · refine V_iload_4 hx dX10_found_6 ?_
    refine V_bipush hx dX10_found_8 (by decide) ?_
    refine V_icmp_le (tgt := 15) hx dX10_found_10 (by decide) (by omega) (by omega) (fun h10 => ?_) (fun h10 => ?_)
    · refine V_aload_0 hx dX10_found_15 ?_
      refine V_iload_1 hx dX10_found_16 ?_
      refine V_iload_2 hx dX10_found_17 ?_
      refine V_iload_3 hx dX10_found_18 ?_
      refine V_iload_4 hx dX10_found_19 ?_
      refine V_iconst hx dX10_found_21 ?_
      refine V_v5I hx el ed (c_X10_pickWords (mw := 0) hN hF hI (by omega) (by omega) (by omega) (by omega) (by omega)) myX10_pickWords mlX10_271 dX10_found_22 ⟨_, rfl, rfl⟩ (k0 hN) (by decide) (by omega) rfl (by first | exact Nat.le_of_ble_eq_true rfl | (simp only [List.map_cons, List.map_nil, List.sum_cons, List.sum_nil, vR_cat, cat_I, cat_L]; decide)) (fun r N1 I1 ⟨eN, hF, hfr, er, hok⟩ => ?_)
      have hv := pk_v I s lane i0 n 0
      have hN : 67 ≤ N1 := by omega
      refine V_istore_5 hx (by first | exact nc_I | exact nc_R | exact nc_n) dX10_found_25 ?_
      refine V_iload_5 hx dX10_found_27 ?_
      refine V_if_ge (tgt := 37) hx dX10_found_29 (by decide) (by omega) (fun h29 => ?_) (fun h29 => ?_)
      · have h7 := hI.sn.2.1
        have hok := hok (by omega)
        have e22 := hok.1
        have hP : PkC I1 N1 := ⟨by omega, fun q q0 q1 => by have := hok.2.1 q q0 (by omega); omega⟩
        have hW : PkW I1 := fun q q0 q1 => by
          have h1 := hok.2.1 q q0 (by omega)
          have h2 := hI.wr _ h1.2.1.1 h1.2.1.2
          have h3 := hI.sw _ h1.2.1.1 h1.2.1.2
          rw [h1.1, hfr _ 3 (by omega) (by omega), hfr _ 4 (by omega) (by omega), hfr _ 5 (by omega) (by omega), hfr _ 6 (by omega) (by omega)]
          omega
        have hE : PkE I I1 (itm I s i0) n := ⟨e22, fun q q0 q1 => ⟨(hok.2.1 q q0 q1).1, (hok.2.1 q q0 q1).2.1.1, (hok.2.1 q q0 q1).2.1.2⟩, fun a q h => hfr a q (by omega) (by omega)⟩
        refine V_aload_0 hx dX10_found_37 ?_
        refine V_getRe hx flX10_74 dX10_found_38 rfl (k0 hN) (hF.1 0 10 22 rfl) ?_
        refine V_v0Q hx el ed (c_X2_firstRule hN hF hP hW) myX2_firstRule mlX10_275 dX10_found_41 ⟨_, rfl, rfl⟩ (k22 hN) (by decide) (by omega) rfl (by first | exact Nat.le_of_ble_eq_true rfl | (simp only [List.map_cons, List.map_nil, List.sum_cons, List.sum_nil, vR_cat, cat_I, cat_L]; decide)) (fun r41 => ?_)
        refine V_ireturn hx dX10_found_44 (by omega) (by omega) ?_
        rw [okPk_0] at hv
        unfold aFound
        rcases hv with ⟨v1, v2⟩ | ⟨v1, v2, v3, v4⟩ | ⟨v1, v2, v3, v4⟩ | ⟨v1, v2, v3, v4⟩
        · first
          | (exfalso; omega)
          | exact ⟨_, rfl, by rw [cif_f (by omega)]; omega, eN, hF, fun a q h1 h2 _ => hfr a q h2 (by omega)⟩
        · first
          | (exfalso; omega)
          | exact ⟨_, rfl, by rw [cif_t (by omega), cif_t v2, cif_t v3, frF_eq hI hE], eN, hF, fun a q h1 h2 _ => hfr a q h2 (by omega)⟩
        · first
          | (exfalso; omega)
          | exact ⟨_, rfl, by rw [cif_t (by omega), cif_t v2, cif_f v3]; omega, eN, hF, fun a q h1 h2 _ => hfr a q h2 (by omega)⟩
        · first
          | (exfalso; omega)
          | exact ⟨_, rfl, by rw [cif_t (by omega), cif_f v2]; omega, eN, hF, fun a q h1 h2 _ => hfr a q h2 (by omega)⟩
      · refine V_iload_5 hx dX10_found_32 ?_
        refine V_goto (tgt := 44) hx dX10_found_34 (by decide) ?_
        refine V_ireturn hx dX10_found_44 (by omega) (by omega) ?_
        rw [okPk_0] at hv
        unfold aFound
        rcases hv with ⟨v1, v2⟩ | ⟨v1, v2, v3, v4⟩ | ⟨v1, v2, v3, v4⟩ | ⟨v1, v2, v3, v4⟩
        · first
          | (exfalso; omega)
          | exact ⟨_, rfl, by rw [cif_f (by omega)]; omega, eN, hF, fun a q h1 h2 _ => hfr a q h2 (by omega)⟩
        · first
          | (exfalso; omega)
          | exact ⟨_, rfl, by rw [cif_t (by omega), cif_t v2, cif_t v3, frF_eq hI hE], eN, hF, fun a q h1 h2 _ => hfr a q h2 (by omega)⟩
        · first
          | (exfalso; omega)
          | exact ⟨_, rfl, by rw [cif_t (by omega), cif_t v2, cif_f v3]; omega, eN, hF, fun a q h1 h2 _ => hfr a q h2 (by omega)⟩
        · first
          | (exfalso; omega)
          | exact ⟨_, rfl, by rw [cif_t (by omega), cif_f v2]; omega, eN, hF, fun a q h1 h2 _ => hfr a q h2 (by omega)⟩
    · refine V_iconst hx dX10_found_13 ?_
      refine V_ireturn hx dX10_found_14 (by omega) (by omega) ?_
      exact ⟨_, rfl, by unfold aFound; rw [cif_f (by omega)], rfl, hF, fun _ _ _ _ _ => rfl⟩

theorem LLp_f {J M : Mm} {N : Int} (hP : PkC J N) (hM : ∀ a q : Int, a ≠ 24 → M a q = J a q) {E : Int → Int} {t : Int} (h : LLp J E t) : LLp M E t := by
  have e22 := hM 22 1 (by decide)
  have hl := hP.1
  unfold LLp at h ⊢
  rw [e22]
  refine ⟨h.1, fun q q0 q1 => ?_, h.2.2⟩
  rw [h.2.1 q q0 q1]
  unfold llS
  rw [e22]
  refine (mnP_c (fun i i0 i1 _ => ?_)).symm
  rw [lnF_f hP hM q (by omega), ltF_f hP hM _ i0 (by omega)]

set_option maxRecDepth 8000 in
theorem c_X10_order {l : Launch} {d : Dd} {z : Nat} {N : Int} {I : Mm} {s lane i0 n k : Int}  (hI : Inv I N) (hs : -2147483648 ≤ s ∧ s ≤ 2147483647) (hlane : -2147483648 ≤ lane ∧ lane ≤ 2147483647) (hi0 : -2147483648 ≤ i0 ∧ i0 ≤ 2147483647) (hn : -2147483648 ≤ n ∧ n ≤ 2147483647) (hk : -2147483648 ≤ k ∧ k ≤ 2147483647) : Cn l d z yX10_order cX10_order 8 (some .int) 4 92 0 0 [vR z 0, vI s, vI lane, vI i0, vI n, vI k] N I (pI (fun r N' I' => N' = N ∧ Fx I' ∧ (∀ a q : Int, a ≠ 22 → a ≠ 23 → a ≠ 24 → I' a q = I a q) ∧ (¬ ((1 ≤ n ∧ n ≤ 6) ∧ -1 ≤ k ∧ k < n) → r = -1) ∧ ((1 ≤ n ∧ n ≤ 6) ∧ -1 ≤ k ∧ k < n → pkF I s lane i0 n 1 ≠ 0 → r = pkF I s lane i0 n 1) ∧ ((1 ≤ n ∧ n ≤ 6) ∧ -1 ≤ k ∧ k < n → pkF I s lane i0 n 1 = 0 → ordC I s i0 n k r))) := by
  refine Cn.ofA [(vR z 0, false), (vI s, false), (vI lane, false), (vI i0, false), (vI n, false), (vI k, false)] [some (vR z 0), some (vI s), some (vI lane), some (vI i0), some (vI n), some (vI k), none, none] RX10 (by decide) rfl ⟨cR z 0, rfl, rfl, rfl, rfl, rfl, trivial⟩ (Nat.le_of_ble_eq_true rfl) rfl (fun x ed el hx hini => ?_)
  have hN := hI.nb.1
  have hF := hI.fx
  have hnb := hI.nb
  have hmy := hI.n
  have hpo := hI.po
  have hsn := hI.sn
  obtain ⟨p1, p2, p3, p4, p5, p6, p7, p8, p9, p10⟩ := hpo
  refine V_iload_4 hx dX10_order_0 ?_
  refine V_iconst hx dX10_order_2 ?_
  refine V_icmp_lt (tgt := 26) hx dX10_order_3 (by decide) (by omega) (by omega) (fun h3 => ?_) (fun h3 => ?_)
  · refine V_iconst hx dX10_order_26 ?_
    refine V_ireturn hx dX10_order_27 (by omega) (by omega) ?_
    exact ⟨_, rfl, rfl, hF, fun _ _ _ _ _ => rfl, fun _ => rfl, fun h => absurd h (by omega), fun h => absurd h (by omega)⟩
  · refine V_iload_4 hx dX10_order_6 ?_
    refine V_bipush hx dX10_order_8 (by decide) ?_
    refine V_icmp_gt (tgt := 26) hx dX10_order_10 (by decide) (by omega) (by omega) (fun h10 => ?_) (fun h10 => ?_)
    · refine V_iconst hx dX10_order_26 ?_
      refine V_ireturn hx dX10_order_27 (by omega) (by omega) ?_
      exact ⟨_, rfl, rfl, hF, fun _ _ _ _ _ => rfl, fun _ => rfl, fun h => absurd h (by omega), fun h => absurd h (by omega)⟩
    · refine V_iload_5 hx dX10_order_13 ?_
      refine V_iconst hx dX10_order_15 ?_
      refine V_icmp_lt (tgt := 26) hx dX10_order_16 (by decide) (by omega) (by omega) (fun h16 => ?_) (fun h16 => ?_)
      · refine V_iconst hx dX10_order_26 ?_
        refine V_ireturn hx dX10_order_27 (by omega) (by omega) ?_
        exact ⟨_, rfl, rfl, hF, fun _ _ _ _ _ => rfl, fun _ => rfl, fun h => absurd h (by omega), fun h => absurd h (by omega)⟩
      · refine V_iload_5 hx dX10_order_19 ?_
        refine V_iload_4 hx dX10_order_21 ?_
        refine V_icmp_lt (tgt := 28) hx dX10_order_23 (by decide) (by omega) (by omega) (fun h23 => ?_) (fun h23 => ?_)
        · refine V_aload_0 hx dX10_order_28 ?_
          refine V_iload_1 hx dX10_order_29 ?_
          refine V_iload_2 hx dX10_order_30 ?_
          refine V_iload_3 hx dX10_order_31 ?_
          refine V_iload_4 hx dX10_order_32 ?_
          refine V_iconst hx dX10_order_34 ?_
          refine V_v5I hx el ed (c_X10_pickWords (mw := 1) hN hF hI (by omega) (by omega) (by omega) (by omega) (by omega)) myX10_pickWords mlX10_271 dX10_order_35 ⟨_, rfl, rfl⟩ (k0 hN) (by decide) (by omega) rfl (by first | exact Nat.le_of_ble_eq_true rfl | (simp only [List.map_cons, List.map_nil, List.sum_cons, List.sum_nil, vR_cat, cat_I, cat_L]; decide)) (fun r N1 I1 ⟨eN, hF, hfr, er, hok⟩ => ?_)
          have hv := pk_v I s lane i0 n 1
          have hN : 67 ≤ N1 := by omega
          refine V_istore_6 hx (by first | exact nc_I | exact nc_R | exact nc_n) dX10_order_38 ?_
          refine V_iload_6 hx dX10_order_40 ?_
          refine V_if_ge (tgt := 48) hx dX10_order_42 (by decide) (by omega) (fun h42 => ?_) (fun h42 => ?_)
          · have h7 := hI.sn.2.1
            have hok := hok (by omega)
            have e22 := hok.1
            have hP : PkC I1 N1 := ⟨by omega, fun q q0 q1 => by have := hok.2.1 q q0 (by omega); omega⟩
            have hW : PkW I1 := fun q q0 q1 => by
              have h1 := hok.2.1 q q0 (by omega)
              have h2 := hI.wr _ h1.2.1.1 h1.2.1.2
              have h3 := hI.sw _ h1.2.1.1 h1.2.1.2
              rw [h1.1, hfr _ 3 (by omega) (by omega), hfr _ 4 (by omega) (by omega), hfr _ 5 (by omega) (by omega), hfr _ 6 (by omega) (by omega)]
              omega
            have hE : PkE I I1 (itm I s i0) n := ⟨e22, fun q q0 q1 => ⟨(hok.2.1 q q0 q1).1, (hok.2.1 q q0 q1).2.1.1, (hok.2.1 q q0 q1).2.1.2⟩, fun a q h => hfr a q (by omega) (by omega)⟩
            have hdn : ∀ p q : Int, 0 ≤ p → p < q → q < I1 22 1 → I1 (I1 23 p) 0 ≠ I1 (I1 23 q) 0 := fun p q a b c => by
              have h1 := hok.2.1 p a (by omega)
              have h2 := hok.2.1 q (by omega) (by omega)
              rw [h1.1, h2.1, hfr _ 0 (by omega) (by omega), hfr _ 0 (by omega) (by omega), (hI.wr _ h1.2.1.1 h1.2.1.2).1, (hI.wr _ h2.2.1.1 h2.2.1.2).1]
              exact hok.2.2 p q a b (by omega)
            refine V_aload_0 hx dX10_order_48 ?_
            refine V_getRe hx flX10_74 dX10_order_49 rfl (k0 hN) (hF.1 0 10 22 rfl) ?_
            refine V_v0N hx el ed (c_X2_sortByNumber hN hF hP (by omega) hdn) myX2_sortByNumber mlX10_279 dX10_order_52 ⟨_, rfl, rfl⟩ (k22 hN) (by decide) (by omega) rfl (by first | exact Nat.le_of_ble_eq_true rfl | (simp only [List.map_cons, List.map_nil, List.sum_cons, List.sum_nil, vR_cat, cat_I, cat_L]; decide)) (fun N2 I2 ⟨eN2, hF, hf2, hso, hr2⟩ => ?_)
            have hN : 67 ≤ N2 := by omega
            have e22b : I2 22 1 = n := by rw [hf2 22 1 (by decide)]; exact e22
            have hP2 : PkC I2 N2 := ⟨by omega, fun q q0 q1 => by have := hr2 q q0 (by omega); omega⟩
            have hso := hso.resolve_left (by omega)
            rw [e22] at hso
            have hmem : ∀ q : Int, 0 ≤ q → q < n → ∃ v : Int, 0 ≤ v ∧ v < n ∧ I2 23 q = 67 + itm I s i0 v := fun q q0 q1 => by
              obtain ⟨v, v0, v1, v2⟩ := (hso.2.2 (I2 23 q)).mp ⟨q, q0, q1, rfl⟩
              exact ⟨v, v0, v1, by rw [← v2]; exact (hok.2.1 v v0 v1).1⟩
            have hwf : ∀ a q : Int, 67 ≤ a → I2 a q = I a q := fun a q h => by rw [hf2 a q (by omega)]; exact hfr a q (by omega) (by omega)
            have hW2 : PkW I2 := fun q q0 q1 => by
              obtain ⟨v, v0, v1, v2⟩ := hmem q q0 (by omega)
              have h1 := hok.2.1 v v0 v1
              have h2 := hI.wr _ h1.2.1.1 h1.2.1.2
              have h3 := hI.sw _ h1.2.1.1 h1.2.1.2
              rw [v2, hwf _ 3 (by omega), hwf _ 4 (by omega), hwf _ 5 (by omega), hwf _ 6 (by omega)]
              omega
            have e116 : I2 11 6 = I 49 7 := by rw [hf2 11 6 (by decide), hfr 11 6 (by decide) (by omega)]; exact p2
            refine V_aload_0 hx dX10_order_55 ?_
            refine V_getRe hx flX10_74 dX10_order_56 rfl (k0 hN) (hF.1 0 10 22 rfl) ?_
            refine V_aload_0 hx dX10_order_59 ?_
            refine V_getRe hx flX10_60 dX10_order_60 rfl (k0 hN) (hF.1 0 8 11 rfl) ?_
            refine V_getIx 6 hx hF flX10_186 dX10_order_63 rfl rfl (k11 hN) (fun r63 => ?_)
            rw [e116]
            refine V_v1I hx el ed (c_X2_leastLate (t := I 49 7) hN hF hP2 hW2 (by omega) (by omega)) myX2_leastLate mlX10_282 dX10_order_66 ⟨_, rfl, rfl⟩ (k22 hN) (by decide) (by omega) rfl (by first | exact Nat.le_of_ble_eq_true rfl | (simp only [List.map_cons, List.map_nil, List.sum_cons, List.sum_nil, vR_cat, cat_I, cat_L]; decide)) (fun sm0 N3 I3 ⟨eN3, hF, er3, hf3, hLL⟩ => ?_)
            have hN : 67 ≤ N3 := by omega
            have e22c : I3 22 1 = n := by rw [hf3 22 1 (by decide)]; exact e22b
            have hP3 : PkC I3 N3 := by rw [eN3]; exact PkC_f hP2 hf3
            have hW3 : PkW I3 := PkW_f hP2 hW2 hf3
            have e116b : I3 11 6 = I 49 7 := by rw [hf3 11 6 (by decide)]; exact e116
            have hLL3 : LLp I3 (I3 24) (I 49 7) := LLp_f hP2 hf3 hLL
            have hb6 := pw_b (i := I3 22 1) (by omega)
            have hEb : ∀ q : Int, 0 ≤ q → q ≤ 2 ^ (I3 22 1).toNat - 1 → 0 ≤ I3 24 q ∧ I3 24 q ≤ 20000000 := fun q q0 q1 => by have := hLL3.2.2 q q0 q1; omega
            have hbb : ∀ r : Int, 0 ≤ r → r < 2 ^ (I3 22 1).toNat - 1 → 0 ≤ bbF I3 (I3 24) (I 49 7) r := fun r r0 r1 => LLp_bb (by omega) hLL3 r0 r1
            have hg3 : ∀ q : Int, 0 ≤ q → q < n → I3 23 q = 67 + (I3 23 q - 67) ∧ ∃ v : Int, 0 ≤ v ∧ v < n ∧ I3 23 q = 67 + itm I s i0 v := fun q q0 q1 => ⟨by omega, by rw [hf3 23 q (by decide)]; exact hmem q q0 q1⟩
            have hnum : ∀ q : Int, 0 ≤ q → q < n → I (I3 23 q) 0 = I3 23 q - 67 := fun q q0 q1 => by
              obtain ⟨v, v0, v1, v2⟩ := (hg3 q q0 q1).2
              have h1 := hok.2.1 v v0 v1
              rw [v2, (hI.wr _ h1.2.1.1 h1.2.1.2).1]; omega
            have hwf3 : ∀ a q : Int, 67 ≤ a → I3 a q = I a q := fun a q h => by rw [hf3 a q (by omega)]; exact hwf a q h
            have hO : ∀ r : Int, (k = -1 → r = I3 24 0) → (0 ≤ k → r = I3 23 (bbF I3 (I3 24) (I 49 7) (gnF I3 (I3 24) (I 49 7) k.toNat)) - 67) → ordC I s i0 n k r := by
              intro r ha hb
              refine ⟨I3, fun q => I3 23 q - 67, e22c, fun p q a b c => ?_, fun v => ?_, fun q q0 q1 => by dsimp only; omega, hwf3, hLL3, ha, hb⟩
              · have h1 := hso.1 p q a b c
                rw [← hf3 23 p (by decide), ← hf3 23 q (by decide)] at h1
                have h2 : I1 (I3 23 p) 0 < I1 (I3 23 q) 0 := h1
                obtain ⟨v, v0, v1, v2⟩ := (hg3 p a (by omega)).2
                obtain ⟨u, u0, u1, u2⟩ := (hg3 q (by omega) c).2
                have w1 := hok.2.1 v v0 v1
                have w2 := hok.2.1 u u0 u1
                rw [hfr _ 0 (by omega) (by omega), hfr _ 0 (by omega) (by omega), hnum p a (by omega), hnum q (by omega) c] at h2
                exact h2
              · constructor
                · rintro ⟨q, a, b, c⟩
                  dsimp only at c
                  obtain ⟨u, u0, u1, u2⟩ := (hg3 q a b).2
                  exact ⟨u, u0, u1, by omega⟩
                · rintro ⟨q, a, b, c⟩
                  obtain ⟨u, u0, u1, u2⟩ := (hso.2.2 (67 + itm I s i0 q)).mpr ⟨q, a, b, (hok.2.1 q a b).1⟩
                  exact ⟨u, u0, u1, by dsimp only; rw [hf3 23 u (by decide), u2]; omega⟩
            refine V_istore_7 hx (by first | exact nc_I | exact nc_R | exact nc_n) dX10_order_69 ?_
            refine V_iload_5 hx dX10_order_71 ?_
            refine V_iconst hx dX10_order_73 ?_
            refine V_icmp_ne (tgt := 82) hx dX10_order_74 (by decide) (by omega) (by omega) (fun h74 => ?_) (fun h74 => ?_)
            · refine V_aload_0 hx dX10_order_82 ?_
              refine V_getRe hx flX10_74 dX10_order_83 rfl (k0 hN) (hF.1 0 10 22 rfl) ?_
              refine V_iload_5 hx dX10_order_86 ?_
              refine V_aload_0 hx dX10_order_88 ?_
              refine V_getRe hx flX10_60 dX10_order_89 rfl (k0 hN) (hF.1 0 8 11 rfl) ?_
              refine V_getIx 6 hx hF flX10_186 dX10_order_92 rfl rfl (k11 hN) (fun r92 => ?_)
              rw [e116b]
              refine V_v2P hx el ed (c_X2_bestAt (t := I 49 7) hN hF hP3 hW3 (by omega) (by omega) hEb (by omega) hbb (fun q hq => ⟨(gn_ok (by omega) hLL3 q (by omega)).1, (gn_ok (by omega) hLL3 q (by omega)).2.1⟩)) myX2_bestAt mlX10_285 dX10_order_95 ⟨_, rfl, rfl⟩ (k22 hN) (by decide) (by omega) rfl (by first | exact Nat.le_of_ble_eq_true rfl | (simp only [List.map_cons, List.map_nil, List.sum_cons, List.sum_nil, vR_cat, cat_I, cat_L]; decide)) ?_
              refine V_ireturn hx dX10_order_98 (by omega) (by omega) ?_
              have hfa : ∀ a q : Int, a ≠ 22 → a ≠ 23 → a ≠ 24 → I3 a q = I a q := fun a q h1 h2 h3 => by rw [hf3 a q h3, hf2 a q h2]; exact hfr a q h2 (by omega)
              first
                | exact ⟨_, rfl, by omega, hF, hfa, fun h => absurd (by omega) h, fun _ h => by omega, fun _ _ => hO _ (fun _ => er3) (fun h => by omega)⟩
                | (have hg := gn_ok (J := I3) (E := I3 24) (t := I 49 7) (by omega) hLL3 k.toNat (by omega)
                   have hb1 := bbF_r I3 (I3 24) (I 49 7) (gnF I3 (I3 24) (I 49 7) k.toNat) (by omega)
                   have hb2 := hbb _ hg.1 hg.2.1
                   have hb3 := hP3.2 (bbF I3 (I3 24) (I 49 7) (gnF I3 (I3 24) (I 49 7) k.toNat)) (by omega) (by omega)
                   exact ⟨_, rfl, by omega, hF, hfa, fun h => absurd (by omega) h, fun _ h => by omega, fun _ _ => hO _ (fun h => by omega) (fun _ => by rw [hwf3 _ 0 (by omega)]; exact hnum _ (by omega) (by omega))⟩)
            · refine V_iload_7 hx dX10_order_77 ?_
              refine V_goto (tgt := 98) hx dX10_order_79 (by decide) ?_
              refine V_ireturn hx dX10_order_98 (by omega) (by omega) ?_
              have hfa : ∀ a q : Int, a ≠ 22 → a ≠ 23 → a ≠ 24 → I3 a q = I a q := fun a q h1 h2 h3 => by rw [hf3 a q h3, hf2 a q h2]; exact hfr a q h2 (by omega)
              first
                | exact ⟨_, rfl, by omega, hF, hfa, fun h => absurd (by omega) h, fun _ h => by omega, fun _ _ => hO _ (fun _ => er3) (fun h => by omega)⟩
                | (have hg := gn_ok (J := I3) (E := I3 24) (t := I 49 7) (by omega) hLL3 k.toNat (by omega)
                   have hb1 := bbF_r I3 (I3 24) (I 49 7) (gnF I3 (I3 24) (I 49 7) k.toNat) (by omega)
                   have hb2 := hbb _ hg.1 hg.2.1
                   have hb3 := hP3.2 (bbF I3 (I3 24) (I 49 7) (gnF I3 (I3 24) (I 49 7) k.toNat)) (by omega) (by omega)
                   exact ⟨_, rfl, by omega, hF, hfa, fun h => absurd (by omega) h, fun _ h => by omega, fun _ _ => hO _ (fun h => by omega) (fun _ => by rw [hwf3 _ 0 (by omega)]; exact hnum _ (by omega) (by omega))⟩)
          · refine V_iload_6 hx dX10_order_45 ?_
            refine V_ireturn hx dX10_order_47 (by omega) (by omega) ?_
            exact ⟨_, rfl, eN, hF, fun a q h1 h2 _ => hfr a q h2 (by omega), fun h => absurd (by omega) h, fun _ _ => er, fun _ h => by omega⟩
        · refine V_iconst hx dX10_order_26 ?_
          refine V_ireturn hx dX10_order_27 (by omega) (by omega) ?_
          exact ⟨_, rfl, rfl, hF, fun _ _ _ _ _ => rfl, fun _ => rfl, fun h => absurd h (by omega), fun h => absurd h (by omega)⟩

