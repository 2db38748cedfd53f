set_option maxRecDepth 8000 in
theorem c_X10_streamAt {l : Launch} {d : Dd} {z : Nat} {N : Int} {I : Mm} {i : Int} (hN : 67 ≤ N) (hF : Fx I) (hi : -2147483648 ≤ i ∧ i ≤ 2147483647) : Cn l d z yX10_streamAt cX10_streamAt 2 (some (.object "TurnPort$Stream")) 0 0 0 0 [vR z 0, vI i] N I (pv (vR z (cif (0 ≤ i ∧ i ≤ 7) (25 + 2 * i) (-1))) N I) := by
  refine Cn.ofA [(vR z 0, false), (vI i, false)] [some (vR z 0), some (vI i)] RX10 (by decide) rfl ⟨cR z 0, rfl, trivial⟩ (Nat.le_of_ble_eq_true rfl) rfl (fun x ed el hx hini => ?_)
  refine V_iload_1 hx dX10_streamAt_0 ?_
  refine V_if_lt (tgt := 10) hx dX10_streamAt_1 (by decide) (by omega) (fun h1 => ?_) (fun h1 => ?_)
  · refine V_null hx dX10_streamAt_10 ?_
    refine V_goto (tgt := 20) hx dX10_streamAt_11 (by decide) ?_
    refine V_areturn hx dX10_streamAt_20 (by omega) (by omega) ?_
    exact ⟨by first | (exfalso; omega) | rw [cif_t (by omega)] | rw [cif_f (by omega)], rfl, rfl⟩
  · refine V_iload_1 hx dX10_streamAt_4 ?_
    refine V_bipush hx dX10_streamAt_5 (by decide) ?_
    refine V_icmp_lt (tgt := 14) hx dX10_streamAt_7 (by decide) (by omega) (by omega) (fun h7 => ?_) (fun h7 => ?_)
    · refine V_aload_0 hx dX10_streamAt_14 ?_
      refine V_getRe hx flX10_11 dX10_streamAt_15 rfl (k0 hN) (hF.1 0 0 1 rfl) ?_
      refine V_iload_1 hx dX10_streamAt_18 ?_
      refine V_aaload hx dX10_streamAt_19 (k1 hN) (by unfold refK; omega) (by decide) (by omega) ?_
      rw [str_at hF (by omega) (by omega)]
      refine V_areturn hx dX10_streamAt_20 (by omega) (by omega) ?_
      exact ⟨by first | (exfalso; omega) | rw [cif_t (by omega)] | rw [cif_f (by omega)], rfl, rfl⟩
    · refine V_null hx dX10_streamAt_10 ?_
      refine V_goto (tgt := 20) hx dX10_streamAt_11 (by decide) ?_
      refine V_areturn hx dX10_streamAt_20 (by omega) (by omega) ?_
      exact ⟨by first | (exfalso; omega) | rw [cif_t (by omega)] | rw [cif_f (by omega)], rfl, rfl⟩

set_option maxRecDepth 8000 in
theorem c_X10_sheetAt {l : Launch} {d : Dd} {z : Nat} {N : Int} {I : Mm} {i : Int} (hN : 67 ≤ N) (hF : Fx I) (hi : -2147483648 ≤ i ∧ i ≤ 2147483647) : Cn l d z yX10_sheetAt cX10_sheetAt 2 (some (.object "TurnPort$Sheet")) 0 0 0 0 [vR z 0, vI i] N I (pv (vR z (cif (0 ≤ i ∧ i ≤ 3) (41 + 2 * i) (-1))) N I) := by
  refine Cn.ofA [(vR z 0, false), (vI i, false)] [some (vR z 0), some (vI i)] RX10 (by decide) rfl ⟨cR z 0, rfl, trivial⟩ (Nat.le_of_ble_eq_true rfl) rfl (fun x ed el hx hini => ?_)
  refine V_iload_1 hx dX10_sheetAt_0 ?_
  refine V_if_lt (tgt := 9) hx dX10_sheetAt_1 (by decide) (by omega) (fun h1 => ?_) (fun h1 => ?_)
  · refine V_null hx dX10_sheetAt_9 ?_
    refine V_goto (tgt := 19) hx dX10_sheetAt_10 (by decide) ?_
    refine V_areturn hx dX10_sheetAt_19 (by omega) (by omega) ?_
    exact ⟨by first | (exfalso; omega) | rw [cif_t (by omega)] | rw [cif_f (by omega)], rfl, rfl⟩
  · refine V_iload_1 hx dX10_sheetAt_4 ?_
    refine V_iconst hx dX10_sheetAt_5 ?_
    refine V_icmp_lt (tgt := 13) hx dX10_sheetAt_6 (by decide) (by omega) (by omega) (fun h6 => ?_) (fun h6 => ?_)
    · refine V_aload_0 hx dX10_sheetAt_13 ?_
      refine V_getRe hx flX10_17 dX10_sheetAt_14 rfl (k0 hN) (hF.1 0 1 2 rfl) ?_
      refine V_iload_1 hx dX10_sheetAt_17 ?_
      refine V_aaload hx dX10_sheetAt_18 (k2 hN) (by unfold refK; omega) (by decide) (by omega) ?_
      rw [shee_at hF (by omega) (by omega)]
      refine V_areturn hx dX10_sheetAt_19 (by omega) (by omega) ?_
      exact ⟨by first | (exfalso; omega) | rw [cif_t (by omega)] | rw [cif_f (by omega)], rfl, rfl⟩
    · refine V_null hx dX10_sheetAt_9 ?_
      refine V_goto (tgt := 19) hx dX10_sheetAt_10 (by decide) ?_
      refine V_areturn hx dX10_sheetAt_19 (by omega) (by omega) ?_
      exact ⟨by first | (exfalso; omega) | rw [cif_t (by omega)] | rw [cif_f (by omega)], rfl, rfl⟩

set_option maxRecDepth 8000 in
theorem c_X10_wordAt {l : Launch} {d : Dd} {z : Nat} {N : Int} {I : Mm} {i : Int} (hN : 67 ≤ N) (hF : Fx I) (hi : -2147483648 ≤ i ∧ i ≤ 2147483647) (hc : I 0 3 ≤ 1000) : Cn l d z yX10_wordAt cX10_wordAt 2 (some (.object "TurnPort$Word")) 0 0 0 0 [vR z 0, vI i] N I (pv (vR z (cif (0 ≤ i ∧ i < I 0 3) (I 3 i) (-1))) N I) := by
  refine Cn.ofA [(vR z 0, false), (vI i, false)] [some (vR z 0), some (vI i)] RX10 (by decide) rfl ⟨cR z 0, rfl, trivial⟩ (Nat.le_of_ble_eq_true rfl) rfl (fun x ed el hx hini => ?_)
  refine V_iload_1 hx dX10_wordAt_0 ?_
  refine V_if_lt (tgt := 12) hx dX10_wordAt_1 (by decide) (by omega) (fun h1 => ?_) (fun h1 => ?_)
  · refine V_null hx dX10_wordAt_12 ?_
    refine V_goto (tgt := 22) hx dX10_wordAt_13 (by decide) ?_
    refine V_areturn hx dX10_wordAt_22 (by omega) (by omega) ?_
    exact ⟨by first | (exfalso; omega) | rw [cif_t (by omega)] | rw [cif_f (by omega)], rfl, rfl⟩
  · refine V_iload_1 hx dX10_wordAt_4 ?_
    refine V_aload_0 hx dX10_wordAt_5 ?_
    refine V_getIx 3 hx hF flX10_98 dX10_wordAt_6 rfl rfl (k0 hN) (fun r6 => ?_)
    refine V_icmp_lt (tgt := 16) hx dX10_wordAt_9 (by decide) (by omega) (by omega) (fun h9 => ?_) (fun h9 => ?_)
    · refine V_aload_0 hx dX10_wordAt_16 ?_
      refine V_getRe hx flX10_23 dX10_wordAt_17 rfl (k0 hN) (hF.1 0 2 3 rfl) ?_
      refine V_iload_1 hx dX10_wordAt_20 ?_
      refine V_aaload hx dX10_wordAt_21 (k3 hN) (by unfold refK; omega) (by decide) (by omega) ?_
      refine V_areturn hx dX10_wordAt_22 (by omega) (by omega) ?_
      exact ⟨by first | (exfalso; omega) | rw [cif_t (by omega)] | rw [cif_f (by omega)], rfl, rfl⟩
    · refine V_null hx dX10_wordAt_12 ?_
      refine V_goto (tgt := 22) hx dX10_wordAt_13 (by decide) ?_
      refine V_areturn hx dX10_wordAt_22 (by omega) (by omega) ?_
      exact ⟨by first | (exfalso; omega) | rw [cif_t (by omega)] | rw [cif_f (by omega)], rfl, rfl⟩

set_option maxRecDepth 8000 in
theorem c_X10_wrongSpan {l : Launch} {d : Dd} {z : Nat} {N : Int} {I : Mm} {s lane i n : Int} (hN : 67 ≤ N) (hF : Fx I) (hC : CSh I) (hs : -2147483648 ≤ s ∧ s ≤ 2147483647) (hlane : -2147483648 ≤ lane ∧ lane ≤ 2147483647) (hi : -2147483648 ≤ i ∧ i ≤ 2147483647) (hn : -2147483648 ≤ n ∧ n ≤ 2147483647) : Cn l d z yX10_wrongSpan cX10_wrongSpan 6 (some .int) 1 22 0 0 [vR z 0, vI s, vI lane, vI i, vI n] N I (pq (cif ((0 ≤ s ∧ s ≤ 3) ∧ (0 ≤ lane ∧ lane ≤ 2)) (cif (wrF I s lane i n = 1) 0 (wrF I s lane i n)) (-1)) N I) := by
  refine Cn.ofA [(vR z 0, false), (vI s, false), (vI lane, false), (vI i, false), (vI n, false)] [some (vR z 0), some (vI s), some (vI lane), some (vI i), some (vI n), none] RX10 (by decide) rfl ⟨cR z 0, rfl, rfl, rfl, rfl, trivial⟩ (Nat.le_of_ble_eq_true rfl) rfl (fun x ed el hx hini => ?_)
  refine V_aload_0 hx dX10_wrongSpan_0 ?_
  refine V_iload_1 hx dX10_wrongSpan_1 ?_
  refine V_v1P hx el ed (c_X10_sheetAt hN hF (by omega)) myX10_sheetAt mlX10_288 dX10_wrongSpan_2 ⟨_, rfl, rfl⟩ (k0 hN) (by decide) (by omega) rfl (by first | exact Nat.le_of_ble_eq_true rfl | (simp only [List.map_cons, List.map_nil, List.sum_cons, List.sum_nil, vR_cat, cat_I, cat_L]; decide)) ?_
  obtain ⟨b, hb⟩ : ∃ b : Int, b = cif (0 ≤ s ∧ s ≤ 3) (41 + 2 * s) (-1) := ⟨_, rfl⟩
  rw [← hb]
  have hbs : (0 ≤ s ∧ s ≤ 3 ∧ b = 41 + 2 * s) ∨ (¬ (0 ≤ s ∧ s ≤ 3) ∧ b = -1) := by
    by_cases c : 0 ≤ s ∧ s ≤ 3
    · rw [cif_t c] at hb; exact Or.inl ⟨c.1, c.2, hb⟩
    · rw [cif_f c] at hb; exact Or.inr ⟨c, hb⟩
  refine V_astore_5 hx (by first | exact nc_I | exact nc_R | exact nc_n) dX10_wrongSpan_5 ?_
  refine V_aload_5 hx dX10_wrongSpan_7 ?_
  refine V_ifnull (tgt := 21) hx dX10_wrongSpan_9 (by decide) (fun h9 => ?_) (fun h9 => ?_)
  · refine V_iconst hx dX10_wrongSpan_21 ?_
    refine V_ireturn hx dX10_wrongSpan_22 (by omega) (by omega) ?_
    exact ⟨by rw [cif_f (by omega)], rfl, rfl, by rw [cif_f (by omega)]; omega⟩
  · refine V_iload_2 hx dX10_wrongSpan_12 ?_
    refine V_if_lt (tgt := 21) hx dX10_wrongSpan_13 (by decide) (by omega) (fun h13 => ?_) (fun h13 => ?_)
    · refine V_iconst hx dX10_wrongSpan_21 ?_
      refine V_ireturn hx dX10_wrongSpan_22 (by omega) (by omega) ?_
      exact ⟨by rw [cif_f (by omega)], rfl, rfl, by rw [cif_f (by omega)]; omega⟩
    · refine V_iload_2 hx dX10_wrongSpan_16 ?_
      refine V_iconst hx dX10_wrongSpan_17 ?_
      refine V_icmp_lt (tgt := 23) hx dX10_wrongSpan_18 (by decide) (by omega) (by omega) (fun h18 => ?_) (fun h18 => ?_)
      · have hS : ShC I N b := by rw [show b = 41 + 2 * s by omega]; exact shC hN hF (by omega) (by omega)
        have hc := hC s (by omega) (by omega)
        rw [← show b = 41 + 2 * s by omega] at hc
        refine V_aload_5 hx dX10_wrongSpan_23 ?_
        refine V_v0P hx el ed (c_X5_holdsNothing hF hS) myX5_holdsNothing mlX10_296 dX10_wrongSpan_25 ⟨_, rfl, rfl⟩ hS.1 (by decide) (by omega) rfl (by first | exact Nat.le_of_ble_eq_true rfl | (simp only [List.map_cons, List.map_nil, List.sum_cons, List.sum_nil, vR_cat, cat_I, cat_L]; decide)) ?_
        refine V_ifB_eq (tgt := 34) hx dX10_wrongSpan_28 (by decide) (fun h28 => ?_) (fun h28 => ?_)
        · refine V_aload_5 hx dX10_wrongSpan_34 ?_
          refine V_getIx 1 hx hF flX10_305 dX10_wrongSpan_36 rfl rfl hS.1 (fun r36 => ?_)
          refine V_iload_2 hx dX10_wrongSpan_39 ?_
          refine V_icmp_eq (tgt := 46) hx dX10_wrongSpan_40 (by decide) (by omega) (by omega) (fun h40 => ?_) (fun h40 => ?_)
          · refine V_aload_5 hx dX10_wrongSpan_46 ?_
            refine V_iload_3 hx dX10_wrongSpan_48 ?_
            refine V_iload_4 hx dX10_wrongSpan_49 ?_
            refine V_v2P hx el ed (c_X5_hasSpan hF hS (by omega) (by omega) (by omega)) myX5_hasSpan mlX10_308 dX10_wrongSpan_51 ⟨_, rfl, rfl⟩ hS.1 (by decide) (by omega) rfl (by first | exact Nat.le_of_ble_eq_true rfl | (simp only [List.map_cons, List.map_nil, List.sum_cons, List.sum_nil, vR_cat, cat_I, cat_L]; decide)) ?_
            refine V_ifB_eq (tgt := 61) hx dX10_wrongSpan_54 (by decide) (fun h54 => ?_) (fun h54 => ?_)
            · refine V_bipush hx dX10_wrongSpan_61 (by decide) ?_
              refine V_ireturn hx dX10_wrongSpan_63 (by omega) (by omega) ?_
              first
                | (have e : wrF I s lane i n = 1 := by unfold wrF; rw [cif_f (by omega), cif_f (by omega), cif_f (by omega)]
                   exact ⟨by rw [cif_t (by omega), cif_t e], rfl, rfl, by rw [cif_t (by omega), cif_t e]; omega⟩)
                | (have e : wrF I s lane i n = (-13) := by unfold wrF; rw [cif_f (by omega), cif_f (by omega), cif_t (by omega)]
                   exact ⟨by rw [cif_t (by omega), cif_f (by omega), e], rfl, rfl, by rw [cif_t (by omega), cif_f (by omega)]; omega⟩)
            · refine V_iconst hx dX10_wrongSpan_57 ?_
              refine V_goto (tgt := 63) hx dX10_wrongSpan_58 (by decide) ?_
              refine V_ireturn hx dX10_wrongSpan_63 (by omega) (by omega) ?_
              first
                | (have e : wrF I s lane i n = 1 := by unfold wrF; rw [cif_f (by omega), cif_f (by omega), cif_f (by omega)]
                   exact ⟨by rw [cif_t (by omega), cif_t e], rfl, rfl, by rw [cif_t (by omega), cif_t e]; omega⟩)
                | (have e : wrF I s lane i n = (-13) := by unfold wrF; rw [cif_f (by omega), cif_f (by omega), cif_t (by omega)]
                   exact ⟨by rw [cif_t (by omega), cif_f (by omega), e], rfl, rfl, by rw [cif_t (by omega), cif_f (by omega)]; omega⟩)
          · refine V_bipush hx dX10_wrongSpan_43 (by decide) ?_
            refine V_ireturn hx dX10_wrongSpan_45 (by omega) (by omega) ?_
            have e : wrF I s lane i n = (-12) := by unfold wrF; rw [cif_f (by omega), cif_t (by omega)]
            exact ⟨by rw [cif_t (by omega), cif_f (by omega), e], rfl, rfl, by rw [cif_t (by omega), cif_f (by omega)]; omega⟩
        · refine V_bipush hx dX10_wrongSpan_31 (by decide) ?_
          refine V_ireturn hx dX10_wrongSpan_33 (by omega) (by omega) ?_
          have e : wrF I s lane i n = (-11) := by unfold wrF; rw [cif_t (by omega)]
          exact ⟨by rw [cif_t (by omega), cif_f (by omega), e], rfl, rfl, by rw [cif_t (by omega), cif_f (by omega)]; omega⟩
      · refine V_iconst hx dX10_wrongSpan_21 ?_
        refine V_ireturn hx dX10_wrongSpan_22 (by omega) (by omega) ?_
        exact ⟨by rw [cif_f (by omega)], rfl, rfl, by rw [cif_f (by omega)]; omega⟩

set_option maxRecDepth 8000 in
theorem c_X10_itemAt {l : Launch} {d : Dd} {z : Nat} {N : Int} {I : Mm} {s i : Int} (hN : 67 ≤ N) (hF : Fx I) (hC : CSh I) (hs : 0 ≤ s ∧ s ≤ 3) (hi : 0 ≤ i ∧ i ≤ 23) : Cn l d z yX10_itemAt cX10_itemAt 4 (some .int) 1 21 0 0 [vR z 0, vI s, vI i] N I (pq (I 60 (24 * s + i)) N I) := by
  refine Cn.ofA [(vR z 0, false), (vI s, false), (vI i, false)] [some (vR z 0), some (vI s), some (vI i), none] RX10 (by decide) rfl ⟨cR z 0, rfl, rfl, trivial⟩ (Nat.le_of_ble_eq_true rfl) rfl (fun x ed el hx hini => ?_)
  refine V_aload_0 hx dX10_itemAt_0 ?_
  refine V_iload_1 hx dX10_itemAt_1 ?_
  refine V_v1P hx el ed (c_X10_sheetAt hN hF (by omega)) myX10_sheetAt mlX10_288 dX10_itemAt_2 ⟨_, rfl, rfl⟩ (k0 hN) (by decide) (by omega) rfl (by first | exact Nat.le_of_ble_eq_true rfl | (simp only [List.map_cons, List.map_nil, List.sum_cons, List.sum_nil, vR_cat, cat_I, cat_L]; decide)) ?_
  obtain ⟨b, hb⟩ : ∃ b : Int, b = cif (0 ≤ s ∧ s ≤ 3) (41 + 2 * s) (-1) := ⟨_, rfl⟩
  rw [← hb]
  have hbs : (0 ≤ s ∧ s ≤ 3 ∧ b = 41 + 2 * s) ∨ (¬ (0 ≤ s ∧ s ≤ 3) ∧ b = -1) := by
    by_cases c : 0 ≤ s ∧ s ≤ 3
    · rw [cif_t c] at hb; exact Or.inl ⟨c.1, c.2, hb⟩
    · rw [cif_f c] at hb; exact Or.inr ⟨c, hb⟩
  refine V_astore_3 hx (by first | exact nc_I | exact nc_R | exact nc_n) dX10_itemAt_5 ?_
  refine V_aload_3 hx dX10_itemAt_6 ?_
  refine V_ifnonnull (tgt := 14) hx dX10_itemAt_7 (by decide) (fun h7 => ?_) (fun h7 => ?_)
  · have hS : ShC I N b := by rw [show b = 41 + 2 * s by omega]; exact shC hN hF (by omega) (by omega)
    have hc := hC s (by omega) (by omega)
    rw [← show b = 41 + 2 * s by omega] at hc
    refine V_aload_3 hx dX10_itemAt_14 ?_
    refine V_iload_2 hx dX10_itemAt_15 ?_
    refine V_v1Q hx el ed (c_X5_at hF hS (by omega)) myX5_at mlX10_320 dX10_itemAt_16 ⟨_, rfl, rfl⟩ hS.1 (by decide) (by omega) rfl (by first | exact Nat.le_of_ble_eq_true rfl | (simp only [List.map_cons, List.map_nil, List.sum_cons, List.sum_nil, vR_cat, cat_I, cat_L]; decide)) (fun r16 => ?_)
    refine V_ireturn hx dX10_itemAt_19 (by omega) (by omega) ?_
    have e : I (b + 1) i = I 60 (24 * s + i) := by rw [show b + 1 = 42 + 2 * s by omega]; exact (hC s (by omega) (by omega)).2.2.2 i (by omega) (by omega)
    rw [cif_t (by omega), e] at r16
    exact ⟨by rw [cif_t (by omega), e], rfl, rfl, r16⟩
  · exfalso; omega

set_option maxRecDepth 8000 in
theorem c_X10_canCome {l : Launch} {d : Dd} {z : Nat} {N : Int} {I : Mm} {s n : Int} (hs : -2147483648 ≤ s ∧ s ≤ 2147483647) (hn : -2147483648 ≤ n ∧ n ≤ 2147483647) : Cn l d z yX10_canCome cX10_canCome 2 (some .boolean) 0 0 0 0 [vI s, vI n] N I (pv (vB ((0 ≤ s ∧ s ≤ 7) ∧ (1 ≤ n ∧ n ≤ 99))) N I) := by
  refine Cn.ofA [(vI s, false), (vI n, false)] [some (vI s), some (vI n)] RX10 (by decide) rfl ⟨rfl, rfl, trivial⟩ (Nat.le_of_ble_eq_true rfl) rfl (fun x ed el hx hini => ?_)
  refine V_iload_0 hx dX10_canCome_0 ?_
  refine V_if_lt (tgt := 25) hx dX10_canCome_1 (by decide) (by omega) (fun h1 => ?_) (fun h1 => ?_)
  · refine V_iconst hx dX10_canCome_25 ?_
    refine V_zreturn hx dX10_canCome_26 (by first | omega | exact cif01 _) (by omega) (by omega) ?_
    first | exact ⟨by rw [vB_t (by omega)], rfl, rfl⟩ | exact ⟨by rw [vB_f (by omega)], rfl, rfl⟩
  · refine V_iload_0 hx dX10_canCome_4 ?_
    refine V_bipush hx dX10_canCome_5 (by decide) ?_
    refine V_icmp_ge (tgt := 25) hx dX10_canCome_7 (by decide) (by omega) (by omega) (fun h7 => ?_) (fun h7 => ?_)
    · refine V_iconst hx dX10_canCome_25 ?_
      refine V_zreturn hx dX10_canCome_26 (by first | omega | exact cif01 _) (by omega) (by omega) ?_
      first | exact ⟨by rw [vB_t (by omega)], rfl, rfl⟩ | exact ⟨by rw [vB_f (by omega)], rfl, rfl⟩
    · refine V_iload_1 hx dX10_canCome_10 ?_
      refine V_iconst hx dX10_canCome_11 ?_
      refine V_icmp_lt (tgt := 25) hx dX10_canCome_12 (by decide) (by omega) (by omega) (fun h12 => ?_) (fun h12 => ?_)
      · refine V_iconst hx dX10_canCome_25 ?_
        refine V_zreturn hx dX10_canCome_26 (by first | omega | exact cif01 _) (by omega) (by omega) ?_
        first | exact ⟨by rw [vB_t (by omega)], rfl, rfl⟩ | exact ⟨by rw [vB_f (by omega)], rfl, rfl⟩
      · refine V_iload_1 hx dX10_canCome_15 ?_
        refine V_bipush hx dX10_canCome_16 (by decide) ?_
        refine V_icmp_gt (tgt := 25) hx dX10_canCome_18 (by decide) (by omega) (by omega) (fun h18 => ?_) (fun h18 => ?_)
        · refine V_iconst hx dX10_canCome_25 ?_
          refine V_zreturn hx dX10_canCome_26 (by first | omega | exact cif01 _) (by omega) (by omega) ?_
          first | exact ⟨by rw [vB_t (by omega)], rfl, rfl⟩ | exact ⟨by rw [vB_f (by omega)], rfl, rfl⟩
        · refine V_iconst hx dX10_canCome_21 ?_
          refine V_goto (tgt := 26) hx dX10_canCome_22 (by decide) ?_
          refine V_zreturn hx dX10_canCome_26 (by first | omega | exact cif01 _) (by omega) (by omega) ?_
          first | exact ⟨by rw [vB_t (by omega)], rfl, rfl⟩ | exact ⟨by rw [vB_f (by omega)], rfl, rfl⟩

set_option maxRecDepth 8000 in
theorem c_X10_takesPart {l : Launch} {d : Dd} {z : Nat} {N : Int} {I : Mm} {a : Int} (hN : 67 ≤ N) (hF : Fx I) (hS : StoC I N) (hA : StC I N a) : Cn l d z yX10_takesPart cX10_takesPart 2 (some .boolean) 1 23 0 0 [vR z 0, vR z a] N I (pv (vB (0 < I a 5 ∨ 0 < cnS I (I a 0))) N I) := by
  refine Cn.ofA [(vR z 0, false), (vR z a, false)] [some (vR z 0), some (vR z a)] RX10 (by decide) rfl ⟨cR z 0, cR z a, trivial⟩ (Nat.le_of_ble_eq_true rfl) rfl (fun x ed el hx hini => ?_)
  refine V_aload_1 hx dX10_takesPart_0 ?_
  refine V_getIx 5 hx hF flX10_193 dX10_takesPart_1 rfl rfl hA.1 (fun r1 => ?_)
  refine V_if_gt (tgt := 27) hx dX10_takesPart_4 (by decide) (by omega) (fun h4 => ?_) (fun h4 => ?_)
  · refine V_iconst hx dX10_takesPart_27 ?_
    refine V_goto (tgt := 32) hx dX10_takesPart_28 (by decide) ?_
    refine V_zreturn hx dX10_takesPart_32 (by first | omega | exact cif01 _) (by omega) (by omega) ?_
    first | exact ⟨by rw [vB_t (by omega)], rfl, rfl⟩ | exact ⟨by rw [vB_f (by omega)], rfl, rfl⟩
  · refine V_aload_0 hx dX10_takesPart_7 ?_
    refine V_getRe hx flX10_60 dX10_takesPart_8 rfl (k0 hN) (hF.1 0 8 11 rfl) ?_
    refine V_getRe hx flX10_196 dX10_takesPart_11 rfl (k11 hN) (hF.1 11 0 12 rfl) ?_
    refine V_getRe hx flX10_206 dX10_takesPart_14 rfl (k12 hN) (hF.1 12 0 13 rfl) ?_
    refine V_aload_1 hx dX10_takesPart_17 ?_
    refine V_getIx 0 hx hF flX10_333 dX10_takesPart_18 rfl rfl hA.1 (fun r18 => ?_)
    refine V_v1Q hx el ed (c_X1_countOf13 hN hF hS.1 (by omega)) myX1_countOf mlX10_334 dX10_takesPart_21 ⟨_, rfl, rfl⟩ (k13 hN) (by decide) (by omega) rfl (by first | exact Nat.le_of_ble_eq_true rfl | (simp only [List.map_cons, List.map_nil, List.sum_cons, List.sum_nil, vR_cat, cat_I, cat_L]; decide)) (fun r21 => ?_)
    have ecn : cnS I (I a 0) = cntW (fun i => I (I 14 i) 1 = I a 0) (I 13 1).toNat := rfl
    refine V_if_le (tgt := 31) hx dX10_takesPart_24 (by decide) (by omega) (fun h24 => ?_) (fun h24 => ?_)
    · refine V_iconst hx dX10_takesPart_31 ?_
      refine V_zreturn hx dX10_takesPart_32 (by first | omega | exact cif01 _) (by omega) (by omega) ?_
      first | exact ⟨by rw [vB_t (by omega)], rfl, rfl⟩ | exact ⟨by rw [vB_f (by omega)], rfl, rfl⟩
    · refine V_iconst hx dX10_takesPart_27 ?_
      refine V_goto (tgt := 32) hx dX10_takesPart_28 (by decide) ?_
      refine V_zreturn hx dX10_takesPart_32 (by first | omega | exact cif01 _) (by omega) (by omega) ?_
      first | exact ⟨by rw [vB_t (by omega)], rfl, rfl⟩ | exact ⟨by rw [vB_f (by omega)], rfl, rfl⟩

theorem sumU_b {I : Mm} {k : Int} (hB : ∀ q : Int, 0 ≤ q → q ≤ 7 → 0 ≤ I (26 + 2 * q) k ∧ I (26 + 2 * q) k ≤ 999) (g : Int) : ∀ n : Nat, n ≤ 8 → 0 ≤ fld (fun s q => s + cif (I (26 + 2 * q) 0 ≤ g) (I (26 + 2 * q) k) 0) 0 n ∧ fld (fun s q => s + cif (I (26 + 2 * q) 0 ≤ g) (I (26 + 2 * q) k) 0) 0 n ≤ 999 * n
  | 0, _ => by simp [fld]
  | n + 1, h => by
    have h1 := sumU_b hB g n (by omega)
    have h2 := hB n (by omega) (by omega)
    have e : fld (fun s q => s + cif (I (26 + 2 * q) 0 ≤ g) (I (26 + 2 * q) k) 0) 0 (n + 1) = fld (fun s q => s + cif (I (26 + 2 * q) 0 ≤ g) (I (26 + 2 * q) k) 0) 0 n + cif (I (26 + 2 * (n : Int)) 0 ≤ g) (I (26 + 2 * (n : Int)) k) 0 := rfl
    rw [e]
    by_cases c : I (26 + 2 * (n : Int)) 0 ≤ g
    · rw [cif_t c]; omega
    · rw [cif_f c]; omega

set_option maxRecDepth 8000 in
theorem c_X10_sumUpTo {l : Launch} {d : Dd} {z : Nat} {N : Int} {I : Mm} {g k : Int} (hN : 67 ≤ N) (hF : Fx I) (hg : -2147483648 ≤ g ∧ g ≤ 2147483647) (hk : 0 ≤ k ∧ k ≤ 6) (hB : ∀ q : Int, 0 ≤ q → q ≤ 7 → 0 ≤ I (26 + 2 * q) k ∧ I (26 + 2 * q) k ≤ 999) : Cn l d z yX10_sumUpTo cX10_sumUpTo 5 (some .int) 0 0 0 0 [vR z 0, vI g, vI k] N I (pq (fld (fun s q => s + cif (I (26 + 2 * q) 0 ≤ g) (I (26 + 2 * q) k) 0) 0 8) N I) := by
  refine Cn.ofA [(vR z 0, false), (vI g, false), (vI k, false)] [some (vR z 0), some (vI g), some (vI k), none, none] RX10 (by decide) rfl ⟨cR z 0, rfl, rfl, trivial⟩ (Nat.le_of_ble_eq_true rfl) rfl (fun x ed el hx hini => ?_)
  refine V_iconst hx dX10_sumUpTo_0 ?_
  refine V_istore_3 hx (by first | exact nc_I | exact nc_R | exact nc_n) dX10_sumUpTo_1 ?_
  refine V_iconst hx dX10_sumUpTo_2 ?_
  refine V_istore_4 hx (by first | exact nc_I | exact nc_R | exact nc_n) dX10_sumUpTo_3 ?_
  refine loop_fld (α := Int) (fun acc i => acc + cif (I (26 + 2 * i) 0 ≤ g) (I (26 + 2 * i) k) 0) 0 8 (by omega) (fun i acc => V x z _ N I 0 0 5 [some (vR z 0), some (vI g), some (vI k), some (vI acc), some (vI i)] []) ?_ ?_
  · refine V_iload_4 hx dX10_sumUpTo_5 ?_
    refine V_bipush hx dX10_sumUpTo_7 (by decide) ?_
    refine V_icmp_ge (tgt := 49) hx dX10_sumUpTo_9 (by decide) (by omega) (by omega) (fun h9 => ?_) (fun h9 => ?_)
    · refine V_iload_3 hx dX10_sumUpTo_49 ?_
      refine V_ireturn hx dX10_sumUpTo_50 (by omega) (by omega) ?_
      have := sumU_b hB g 8 (by omega)
      exact ⟨rfl, rfl, rfl, by omega⟩
    · exfalso; omega
  · intro i hi0 hi1 ih
    have hac := sumU_b hB g i.toNat (by omega)
    have hst := stC hN hF (s := i) (by omega) (by omega)
    have hst2 : shk N (26 + 2 * i) (1, 7) := by have := hst.2.2.1; rw [show 25 + 2 * i + 1 = 26 + 2 * i by omega] at this; exact this
    have hbi := hB i (by omega) (by omega)
    refine V_iload_4 hx dX10_sumUpTo_5 ?_
    refine V_bipush hx dX10_sumUpTo_7 (by decide) ?_
    refine V_icmp_ge (tgt := 49) hx dX10_sumUpTo_9 (by decide) (by omega) (by omega) (fun h9 => ?_) (fun h9 => ?_)
    · exfalso; omega
    · refine V_aload_0 hx dX10_sumUpTo_12 ?_
      refine V_getRe hx flX10_11 dX10_sumUpTo_13 rfl (k0 hN) (hF.1 0 0 1 rfl) ?_
      refine V_iload_4 hx dX10_sumUpTo_16 ?_
      refine V_aaload hx dX10_sumUpTo_18 (k1 hN) (by unfold refK; omega) (by decide) (by omega) ?_
      rw [str_at hF (by omega) (by omega)]
      refine V_getRe hx flX10_247 dX10_sumUpTo_19 rfl hst.1 hst.2.1 ?_
      rw [show 25 + 2 * i + 1 = 26 + 2 * i by omega]
      refine V_iconst hx dX10_sumUpTo_22 ?_
      refine V_ialoadx hx hF dX10_sumUpTo_23 hst2 (by decide) (by omega) (fun r23 => ?_)
      refine V_iload_1 hx dX10_sumUpTo_24 ?_
      refine V_icmp_gt (tgt := 43) hx dX10_sumUpTo_25 (by decide) (by omega) (by omega) (fun h25 => ?_) (fun h25 => ?_)
      · refine V_iinc_4 hx (by first | exact nc_I | exact nc_R | exact nc_n) dX10_sumUpTo_43 ?_
        refine V_goto (tgt := 5) hx dX10_sumUpTo_46 (by decide) ?_
        first | (rw [cif_t (by omega)] at ih; exact ih) | (rw [cif_f (by omega), Int.add_zero] at ih; exact ih)
      · refine V_iload_3 hx dX10_sumUpTo_28 ?_
        refine V_aload_0 hx dX10_sumUpTo_29 ?_
        refine V_getRe hx flX10_11 dX10_sumUpTo_30 rfl (k0 hN) (hF.1 0 0 1 rfl) ?_
        refine V_iload_4 hx dX10_sumUpTo_33 ?_
        refine V_aaload hx dX10_sumUpTo_35 (k1 hN) (by unfold refK; omega) (by decide) (by omega) ?_
        rw [str_at hF (by omega) (by omega)]
        refine V_getRe hx flX10_247 dX10_sumUpTo_36 rfl hst.1 hst.2.1 ?_
        rw [show 25 + 2 * i + 1 = 26 + 2 * i by omega]
        refine V_iload_2 hx dX10_sumUpTo_39 ?_
        refine V_ialoadx hx hF dX10_sumUpTo_40 hst2 (by decide) (by omega) (fun r40 => ?_)
        refine V_iadd hx dX10_sumUpTo_41 ?_
        refine V_istore_3 hx (by first | exact nc_I | exact nc_R | exact nc_n) dX10_sumUpTo_42 ?_
        refine V_iinc_4 hx (by first | exact nc_I | exact nc_R | exact nc_n) dX10_sumUpTo_43 ?_
        refine V_goto (tgt := 5) hx dX10_sumUpTo_46 (by decide) ?_
        first | (rw [cif_t (by omega)] at ih; exact ih) | (rw [cif_f (by omega), Int.add_zero] at ih; exact ih)

