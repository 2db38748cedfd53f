set_option maxRecDepth 8000 in
theorem c_X10_takeRanks {l : Launch} {d : Dd} {z : Nat} {N : Int} {I : Mm} {s lane i0 n : Int} (hN : 67 ≤ N) (hF : Fx I) (hC : CSh I) (hs : -2147483648 ≤ s ∧ s ≤ 2147483647) (hlane : -2147483648 ≤ lane ∧ lane ≤ 2147483647) (hi0 : -2147483648 ≤ i0 ∧ i0 ≤ 2147483647) (hn : -2147483648 ≤ n ∧ n ≤ 2147483647) : Cn l d z yX10_takeRanks cX10_takeRanks 8 (some .int) 2 47 0 0 [vR z 0, vI s, vI lane, vI i0, vI n] N I (pI (fun r N' I' => N' = N ∧ Fx I' ∧ (∀ a q : Int, a ≠ 19 → ¬ (a = 18 ∧ q = 1) → I' a q = I a q) ∧ r = tkF I s lane i0 n ∧ (r = 0 → I' 18 1 = n ∧ ∀ q : Int, 0 ≤ q → q < n → I' 19 q = itm I s i0 q ∧ 0 ≤ itm I s i0 q ∧ itm I s i0 q ≤ 31))) := by
  refine Cn.ofA [(vR z 0, false), (vI s, false), (vI lane, false), (vI i0, false), (vI n, false)] [some (vR z 0), some (vI s), some (vI lane), some (vI i0), some (vI n), none, none, none] RX10 (by decide) rfl ⟨cR z 0, rfl, rfl, rfl, rfl, trivial⟩ (Nat.le_of_ble_eq_true rfl) rfl (fun x ed el hx hini => ?_)
  refine V_iload_4 hx dX10_takeRanks_0 ?_
  refine V_iconst hx dX10_takeRanks_2 ?_
  refine V_icmp_lt (tgt := 13) hx dX10_takeRanks_3 (by decide) (by omega) (by omega) (fun h3 => ?_) (fun h3 => ?_)
  · refine V_iconst hx dX10_takeRanks_13 ?_
    refine V_ireturn hx dX10_takeRanks_14 (by omega) (by omega) ?_
    exact ⟨_, rfl, rfl, hF, fun _ _ _ _ => rfl, by unfold tkF; rw [cif_f (by omega)], fun h => by omega⟩
  · refine V_iload_4 hx dX10_takeRanks_6 ?_
    refine V_bipush hx dX10_takeRanks_8 (by decide) ?_
    refine V_icmp_le (tgt := 15) hx dX10_takeRanks_10 (by decide) (by omega) (by omega) (fun h10 => ?_) (fun h10 => ?_)
    · refine V_aload_0 hx dX10_takeRanks_15 ?_
      refine V_iload_1 hx dX10_takeRanks_16 ?_
      refine V_iload_2 hx dX10_takeRanks_17 ?_
      refine V_iload_3 hx dX10_takeRanks_18 ?_
      refine V_iload_4 hx dX10_takeRanks_19 ?_
      refine V_v4Q hx el ed (c_X10_wrongSpan hN hF hC (by omega) (by omega) (by omega) (by omega)) myX10_wrongSpan mlX10_105 dX10_takeRanks_21 ⟨_, rfl, rfl⟩ (k0 hN) (by decide) (by omega) rfl (by first | exact Nat.le_of_ble_eq_true rfl | (simp only [List.map_cons, List.map_nil, List.sum_cons, List.sum_nil, vR_cat, cat_I, cat_L]; decide)) (fun r21 => ?_)
      refine V_topI (wsF I s lane i0 n) rfl ?_
      have hv := wsF_v I s lane i0 n
      refine V_istore_5 hx (by first | exact nc_I | exact nc_R | exact nc_n) dX10_takeRanks_24 ?_
      refine V_iload_5 hx dX10_takeRanks_26 ?_
      refine V_if_ge (tgt := 34) hx dX10_takeRanks_28 (by decide) (by omega) (fun h28 => ?_) (fun h28 => ?_)
      · refine V_aload_0 hx dX10_takeRanks_34 ?_
        refine V_getRe hx flX10_67 dX10_takeRanks_35 rfl (k0 hN) (hF.1 0 9 18 rfl) ?_
        refine V_v0N hx el ed (c_X0_clear hN hF) myX0_clear mlX10_337 dX10_takeRanks_38 ⟨_, rfl, rfl⟩ (k18 hN) (by decide) (by omega) rfl (by first | exact Nat.le_of_ble_eq_true rfl | (simp only [List.map_cons, List.map_nil, List.sum_cons, List.sum_nil, vR_cat, cat_I, cat_L]; decide)) (fun N1 I1 ⟨eN, eI, hF⟩ => ?_)
        subst eN
        refine V_iconst hx dX10_takeRanks_41 ?_
        refine V_istore_6 hx (by first | exact nc_I | exact nc_R | exact nc_n) dX10_takeRanks_42 ?_
        have hin := wr_in hC (s := s) (lane := lane) (i := i0) (n := n) (by omega) (by omega)
        refine loop_inv (α := Mm) 0 n (by omega) (fun k M => Fx M ∧ (∀ a q : Int, a ≠ 19 → ¬ (a = 18 ∧ q = 1) → M a q = I a q) ∧ M 18 1 = k ∧ ∀ q : Int, 0 ≤ q → q < k → M 19 q = itm I s i0 q ∧ 0 ≤ itm I s i0 q ∧ itm I s i0 q ≤ 31) (fun k M => V x z _ N1 M 0 0 44 [some (vR z 0), some (vI s), some (vI lane), some (vI i0), some (vI n), some (vI (wsF I s lane i0 n)), some (vI k), none] []) ?_ ?_ I1 ⟨hF, fun a q h1 h2 => by rw [eI, up_n (by omega)], by rw [eI, up_s], fun q q0 q1 => by omega⟩
        · rintro M ⟨hF, hM, h18, hJ⟩
          refine V_iload_6 hx dX10_takeRanks_44 ?_
          refine V_iload_4 hx dX10_takeRanks_46 ?_
          refine V_icmp_ge (tgt := 92) hx dX10_takeRanks_48 (by decide) (by omega) (by omega) (fun h48 => ?_) (fun h48 => ?_)
          · refine V_iconst hx dX10_takeRanks_92 ?_
            refine V_ireturn hx dX10_takeRanks_93 (by omega) (by omega) ?_
            have hok : okRk I s i0 n := fun k k0 k1 => (hJ k k0 k1).2
            exact ⟨_, rfl, rfl, hF, hM, by unfold tkF; rw [cif_t (by omega), cif_t (by omega), cif_t hok], fun _ => ⟨h18, hJ⟩⟩
          · exfalso; omega
        · rintro k M hk0 hk1 ⟨hF, hM, h18, hJ⟩ ih
          have hCM : CSh M := CSh_of hC (fun a q h => hM a q (by omega) (by omega))
          have e60 : M 60 (24 * s + (i0 + k)) = itm I s i0 k := hM 60 _ (by decide) (by omega)
          refine V_iload_6 hx dX10_takeRanks_44 ?_
          refine V_iload_4 hx dX10_takeRanks_46 ?_
          refine V_icmp_ge (tgt := 92) hx dX10_takeRanks_48 (by decide) (by omega) (by omega) (fun h48 => ?_) (fun h48 => ?_)
          · exfalso; omega
          · refine V_aload_0 hx dX10_takeRanks_51 ?_
            refine V_iload_1 hx dX10_takeRanks_52 ?_
            refine V_iload_3 hx dX10_takeRanks_53 ?_
            refine V_iload_6 hx dX10_takeRanks_54 ?_
            refine V_iadd hx dX10_takeRanks_56 ?_
            refine V_v2Q hx el ed (c_X10_itemAt hN hF hCM (by omega) (by omega)) myX10_itemAt mlX10_109 dX10_takeRanks_57 ⟨_, rfl, rfl⟩ (k0 hN) (by decide) (by omega) rfl (by first | exact Nat.le_of_ble_eq_true rfl | (simp only [List.map_cons, List.map_nil, List.sum_cons, List.sum_nil, vR_cat, cat_I, cat_L]; decide)) (fun r57 => ?_)
            refine V_istore_7 hx (by first | exact nc_I | exact nc_R | exact nc_n) dX10_takeRanks_60 ?_
            refine V_iload_7 hx dX10_takeRanks_62 ?_
            refine V_if_lt (tgt := 74) hx dX10_takeRanks_64 (by decide) (by omega) (fun h64 => ?_) (fun h64 => ?_)
            · refine V_bipush hx dX10_takeRanks_74 (by decide) ?_
              refine V_ireturn hx dX10_takeRanks_76 (by omega) (by omega) ?_
              have hno : ¬ okRk I s i0 n := fun q => by have := q k hk0 hk1; unfold itm at e60; omega
              exact ⟨_, rfl, rfl, hF, hM, by unfold tkF; rw [cif_t (by omega), cif_t (by omega), cif_f hno], fun h => by omega⟩
            · refine V_iload_7 hx dX10_takeRanks_67 ?_
              refine V_bipush hx dX10_takeRanks_69 (by decide) ?_
              refine V_icmp_lt (tgt := 77) hx dX10_takeRanks_71 (by decide) (by omega) (by omega) (fun h71 => ?_) (fun h71 => ?_)
              · refine V_aload_0 hx dX10_takeRanks_77 ?_
                refine V_getRe hx flX10_67 dX10_takeRanks_78 rfl (k0 hN) (hF.1 0 9 18 rfl) ?_
                refine V_iload_7 hx dX10_takeRanks_81 ?_
                refine V_v1N hx el ed (c_X0_add hN hF (by omega) (by omega)) myX0_add mlX10_338 dX10_takeRanks_83 ⟨_, rfl, rfl⟩ (k18 hN) (by decide) (by omega) rfl (by first | exact Nat.le_of_ble_eq_true rfl | (simp only [List.map_cons, List.map_nil, List.sum_cons, List.sum_nil, vR_cat, cat_I, cat_L]; decide)) (fun N2 I2 ⟨eN, eI2, hF⟩ => ?_)
                subst eN
                refine V_iinc_6 hx (by first | exact nc_I | exact nc_R | exact nc_n) dX10_takeRanks_86 ?_
                refine V_goto (tgt := 44) hx dX10_takeRanks_89 (by decide) ?_
                refine V_drop_7 ?_
                refine ih _ ⟨hF, fun a q h1 h2 => by rw [eI2, up_n (by omega), up_c h1]; exact hM a q h1 h2, by rw [eI2, up_s]; omega, fun q q0 q1 => ?_⟩
                rw [eI2, up_c (by decide), h18]
                by_cases hq : q = k
                · rw [hq, up_s]; exact ⟨e60, by rw [← e60]; omega, by rw [← e60]; omega⟩
                · rw [up_k hq]; exact hJ q q0 (by omega)
              · refine V_bipush hx dX10_takeRanks_74 (by decide) ?_
                refine V_ireturn hx dX10_takeRanks_76 (by omega) (by omega) ?_
                have hno : ¬ okRk I s i0 n := fun q => by have := q k hk0 hk1; unfold itm at e60; omega
                exact ⟨_, rfl, rfl, hF, hM, by unfold tkF; rw [cif_t (by omega), cif_t (by omega), cif_f hno], fun h => by omega⟩
      · refine V_iload_5 hx dX10_takeRanks_31 ?_
        refine V_ireturn hx dX10_takeRanks_33 (by omega) (by omega) ?_
        exact ⟨_, rfl, rfl, hF, fun _ _ _ _ => rfl, by unfold tkF; rw [cif_t (by omega), cif_f (by omega)], fun h => by omega⟩
    · refine V_iconst hx dX10_takeRanks_13 ?_
      refine V_ireturn hx dX10_takeRanks_14 (by omega) (by omega) ?_
      exact ⟨_, rfl, rfl, hF, fun _ _ _ _ => rfl, by unfold tkF; rw [cif_f (by omega)], fun h => by omega⟩

set_option maxRecDepth 8000 in
theorem c_X10_pickWords {l : Launch} {d : Dd} {z : Nat} {N : Int} {I : Mm} {s lane i0 n mw : Int} (hN : 67 ≤ N) (hF : Fx I) (hI : Inv I N) (hs : -2147483648 ≤ s ∧ s ≤ 2147483647) (hlane : -2147483648 ≤ lane ∧ lane ≤ 2147483647) (hi0 : -2147483648 ≤ i0 ∧ i0 ≤ 2147483647)  (hn : 1 ≤ n ∧ n ≤ 8) (hmw : 0 ≤ mw ∧ mw ≤ 1) : Cn l d z yX10_pickWords cX10_pickWords 9 (some .int) 2 47 0 0 [vR z 0, vI s, vI lane, vI i0, vI n, vI mw] N I (pI (fun r N' I' => N' = N ∧ Fx I' ∧ (∀ a q : Int, a ≠ 23 → ¬ (a = 22 ∧ q = 1) → I' a q = I a q) ∧ r = pkF I s lane i0 n mw ∧ (r = 0 → I' 22 1 = n ∧ (∀ q : Int, 0 ≤ q → q < n → I' 23 q = 67 + itm I s i0 q ∧ (0 ≤ itm I s i0 q ∧ itm I s i0 q < I 49 6) ∧ (mw ≠ 0 → I 55 (13 * itm I s i0 q + 9) = 0)) ∧ (∀ p q : Int, 0 ≤ p → p < q → q < n → itm I s i0 p ≠ itm I s i0 q)))) := by
  refine Cn.ofA [(vR z 0, false), (vI s, false), (vI lane, false), (vI i0, false), (vI n, false), (vI mw, false)] [some (vR z 0), some (vI s), some (vI lane), some (vI i0), some (vI n), some (vI mw), none, none, none] RX10 (by decide) rfl ⟨cR z 0, rfl, rfl, rfl, rfl, rfl, trivial⟩ (Nat.le_of_ble_eq_true rfl) rfl (fun x ed el hx hini => ?_)
  have hC := hI.sh
  have hnb := hI.nb
  have hmy := hI.n
  have hpo := hI.po.1
  have hsn := hI.sn.1
  refine V_aload_0 hx dX10_pickWords_0 ?_
  refine V_iload_1 hx dX10_pickWords_1 ?_
  refine V_iload_2 hx dX10_pickWords_2 ?_
  refine V_iload_3 hx dX10_pickWords_3 ?_
  refine V_iload_4 hx dX10_pickWords_4 ?_
  refine V_v4Q hx el ed (c_X10_wrongSpan hN hF hC (by omega) (by omega) (by omega) (by omega)) myX10_wrongSpan mlX10_105 dX10_pickWords_6 ⟨_, rfl, rfl⟩ (k0 hN) (by decide) (by omega) rfl (by first | exact Nat.le_of_ble_eq_true rfl | (simp only [List.map_cons, List.map_nil, List.sum_cons, List.sum_nil, vR_cat, cat_I, cat_L]; decide)) (fun r6 => ?_)
  refine V_topI (wsF I s lane i0 n) rfl ?_
  have hv := wsF_v I s lane i0 n
  refine V_istore_6 hx (by first | exact nc_I | exact nc_R | exact nc_n) dX10_pickWords_9 ?_
  refine V_iload_6 hx dX10_pickWords_11 ?_
  refine V_if_ge (tgt := 19) hx dX10_pickWords_13 (by decide) (by omega) (fun h13 => ?_) (fun h13 => ?_)
  · refine V_aload_0 hx dX10_pickWords_19 ?_
    refine V_getRe hx flX10_74 dX10_pickWords_20 rfl (k0 hN) (hF.1 0 10 22 rfl) ?_
    refine V_v0N hx el ed (c_X2_clear hN hF) myX2_clear mlX10_341 dX10_pickWords_23 ⟨_, rfl, rfl⟩ (k22 hN) (by decide) (by omega) rfl (by first | exact Nat.le_of_ble_eq_true rfl | (simp only [List.map_cons, List.map_nil, List.sum_cons, List.sum_nil, vR_cat, cat_I, cat_L]; decide)) (fun N1 I1 ⟨eN, eI, hF⟩ => ?_)
    subst eN
    refine V_iconst hx dX10_pickWords_26 ?_
    refine V_istore_7 hx (by first | exact nc_I | exact nc_R | exact nc_n) dX10_pickWords_27 ?_
    have hin := wr_in hC (s := s) (lane := lane) (i := i0) (n := n) (by omega) (by omega)
    refine loop_inv (α := Mm) 0 n (by omega) (fun k M => Fx M ∧ (∀ a q : Int, a ≠ 23 → ¬ (a = 22 ∧ q = 1) → M a q = I a q) ∧ M 22 1 = k ∧ (∀ q : Int, 0 ≤ q → q < k → M 23 q = 67 + itm I s i0 q ∧ (0 ≤ itm I s i0 q ∧ itm I s i0 q < I 49 6) ∧ (mw ≠ 0 → I 55 (13 * itm I s i0 q + 9) = 0)) ∧ (∀ p q : Int, 0 ≤ p → p < q → q < k → itm I s i0 p ≠ itm I s i0 q)) (fun k M => V x z _ N1 M 0 0 29 [some (vR z 0), some (vI s), some (vI lane), some (vI i0), some (vI n), some (vI mw), some (vI (wsF I s lane i0 n)), some (vI k), none] []) ?_ ?_ I1 ⟨hF, fun a q h1 h2 => by rw [eI, up_n (by omega)], by rw [eI, up_s], fun q q0 q1 => by omega, fun p q a b c => by omega⟩
    · rintro M ⟨hF, hM, h22, hJ, hD⟩
      refine V_iload_7 hx dX10_pickWords_29 ?_
      refine V_iload_4 hx dX10_pickWords_31 ?_
      refine V_icmp_ge (tgt := 99) hx dX10_pickWords_33 (by decide) (by omega) (by omega) (fun h33 => ?_) (fun h33 => ?_)
      · refine V_iconst hx dX10_pickWords_99 ?_
        refine V_ireturn hx dX10_pickWords_100 (by omega) (by omega) ?_
        have hok : okPk I s i0 n mw := ⟨fun k k0 k1 => (hJ k k0 k1).2, fun ⟨p, q, a, b, c, d⟩ => hD p q a b c d⟩
        exact ⟨_, rfl, rfl, hF, hM, by unfold pkF; rw [cif_t (by omega), cif_t hok], fun _ => ⟨h22, hJ, hD⟩⟩
      · exfalso; omega
    · rintro k M hk0 hk1 ⟨hF, hM, h22, hJ, hD⟩ ih
      have hCM : CSh M := CSh_of hC (fun a q h => hM a q (by omega) (by omega))
      have e60 : M 60 (24 * s + (i0 + k)) = itm I s i0 k := hM 60 _ (by decide) (by omega)
      have m03 : M 0 3 = I 0 3 := hM 0 3 (by decide) (by omega)
      have hPM : PkC M N1 := ⟨by omega, fun q q0 q1 => by have := hJ q q0 (by omega); omega⟩
      refine V_iload_7 hx dX10_pickWords_29 ?_
      refine V_iload_4 hx dX10_pickWords_31 ?_
      refine V_icmp_ge (tgt := 99) hx dX10_pickWords_33 (by decide) (by omega) (by omega) (fun h33 => ?_) (fun h33 => ?_)
      · exfalso; omega
      · refine V_aload_0 hx dX10_pickWords_36 ?_
        refine V_aload_0 hx dX10_pickWords_37 ?_
        refine V_iload_1 hx dX10_pickWords_38 ?_
        refine V_iload_3 hx dX10_pickWords_39 ?_
        refine V_iload_7 hx dX10_pickWords_40 ?_
        refine V_iadd hx dX10_pickWords_42 ?_
        refine V_v2Q hx el ed (c_X10_itemAt hN hF hCM (by omega) (by omega)) myX10_itemAt mlX10_109 dX10_pickWords_43 ⟨_, rfl, rfl⟩ (k0 hN) (by decide) (by omega) rfl (by first | exact Nat.le_of_ble_eq_true rfl | (simp only [List.map_cons, List.map_nil, List.sum_cons, List.sum_nil, vR_cat, cat_I, cat_L]; decide)) (fun r43 => ?_)
        refine V_v1P hx el ed (c_X10_wordAt hN hF (by omega) (by omega)) myX10_wordAt mlX10_135 dX10_pickWords_46 ⟨_, rfl, rfl⟩ (k0 hN) (by decide) (by omega) rfl (by first | exact Nat.le_of_ble_eq_true rfl | (simp only [List.map_cons, List.map_nil, List.sum_cons, List.sum_nil, vR_cat, cat_I, cat_L]; decide)) ?_
        obtain ⟨b, hb⟩ : ∃ b : Int, b = cif (0 ≤ M 60 (24 * s + (i0 + k)) ∧ M 60 (24 * s + (i0 + k)) < M 0 3) (M 3 (M 60 (24 * s + (i0 + k)))) (-1) := ⟨_, rfl⟩
        rw [← hb]
        rw [e60, m03] at hb
        have hbs : ((0 ≤ itm I s i0 k ∧ itm I s i0 k < I 49 6) ∧ b = 67 + itm I s i0 k) ∨ (¬ (0 ≤ itm I s i0 k ∧ itm I s i0 k < I 49 6) ∧ b = -1) := by
          by_cases c : 0 ≤ itm I s i0 k ∧ itm I s i0 k < I 0 3
          · rw [cif_t c, hM 3 _ (by decide) (by omega), (hI.wd _ c.1 (by omega)).1.1] at hb; exact Or.inl ⟨by omega, hb⟩
          · rw [cif_f c] at hb; exact Or.inr ⟨by omega, hb⟩
        refine V_astore_8 hx (by first | exact nc_I | exact nc_R | exact nc_n) dX10_pickWords_49 ?_
        refine V_aload_8 hx dX10_pickWords_51 ?_
        refine V_ifnull (tgt := 81) hx dX10_pickWords_53 (by decide) (fun h53 => ?_) (fun h53 => ?_)
        · refine V_bipush hx dX10_pickWords_81 (by decide) ?_
          refine V_ireturn hx dX10_pickWords_83 (by omega) (by omega) ?_
          have hno : ¬ okPk I s i0 n mw := by
            rintro ⟨q1, q2⟩
            have q3 := q1 k hk0 hk1
            first
              | omega
              | (obtain ⟨q, a, b', c⟩ := h65
                 have := (hJ q a (by omega)).1
                 exact q2 ⟨q, k, a, by omega, hk1, by omega⟩)
          exact ⟨_, rfl, rfl, hF, hM, by unfold pkF; rw [cif_t (by omega), cif_f hno], fun h => by omega⟩
        · have hshb : shk N1 b (0, 9) := wdC (by omega) (by omega)
          have hw := (hI.wd (itm I s i0 k) (by omega) (by omega)).1.2.2.2.2.2.2.2.2.2.2.2
          have hm10 : M b 10 = I 55 (13 * itm I s i0 k + 9) := by rw [hM b 10 (by omega) (by omega), show b = 67 + itm I s i0 k by omega]; exact hw
          refine V_aload_0 hx dX10_pickWords_56 ?_
          refine V_getRe hx flX10_74 dX10_pickWords_57 rfl (k0 hN) (hF.1 0 10 22 rfl) ?_
          refine V_aload_8 hx dX10_pickWords_60 ?_
          refine V_v1P hx el ed (c_X2_has hN hF hPM (by omega)) myX2_has mlX10_342 dX10_pickWords_62 ⟨_, rfl, rfl⟩ (k22 hN) (by decide) (by omega) rfl (by first | exact Nat.le_of_ble_eq_true rfl | (simp only [List.map_cons, List.map_nil, List.sum_cons, List.sum_nil, vR_cat, cat_I, cat_L]; decide)) ?_
          refine V_ifB_ne (tgt := 81) hx dX10_pickWords_65 (by decide) (fun h65 => ?_) (fun h65 => ?_)
          · refine V_bipush hx dX10_pickWords_81 (by decide) ?_
            refine V_ireturn hx dX10_pickWords_83 (by omega) (by omega) ?_
            have hno : ¬ okPk I s i0 n mw := by
              rintro ⟨q1, q2⟩
              have q3 := q1 k hk0 hk1
              first
                | omega
                | (obtain ⟨q, a, b', c⟩ := h65
                   have := (hJ q a (by omega)).1
                   exact q2 ⟨q, k, a, by omega, hk1, by omega⟩)
            exact ⟨_, rfl, rfl, hF, hM, by unfold pkF; rw [cif_t (by omega), cif_f hno], fun h => by omega⟩
          · refine V_iload_5 hx dX10_pickWords_68 ?_
            refine V_if_eq (tgt := 84) hx dX10_pickWords_70 (by decide) (by omega) (fun h70 => ?_) (fun h70 => ?_)
            · refine V_aload_0 hx dX10_pickWords_84 ?_
              refine V_getRe hx flX10_74 dX10_pickWords_85 rfl (k0 hN) (hF.1 0 10 22 rfl) ?_
              refine V_aload_8 hx dX10_pickWords_88 ?_
              refine V_v1N hx el ed (c_X2_add hN hF (by omega) hshb (by omega)) myX2_add mlX10_346 dX10_pickWords_90 ⟨_, rfl, rfl⟩ (k22 hN) (by decide) (by omega) rfl (by first | exact Nat.le_of_ble_eq_true rfl | (simp only [List.map_cons, List.map_nil, List.sum_cons, List.sum_nil, vR_cat, cat_I, cat_L]; decide)) (fun N2 I2 ⟨eN, eI2, hF⟩ => ?_)
              subst eN
              refine V_iinc_7 hx (by first | exact nc_I | exact nc_R | exact nc_n) dX10_pickWords_93 ?_
              refine V_goto (tgt := 29) hx dX10_pickWords_96 (by decide) ?_
              refine V_drop_8 ?_
              refine ih _ ⟨hF, fun a q h1 h2 => by rw [eI2, up_n (by omega), up_c h1]; exact hM a q h1 h2, by rw [eI2, up_s]; omega, fun q q0 q1 => ?_, fun p q a b' c => ?_⟩
              · rw [eI2, up_c (by decide), h22]
                by_cases hq : q = k
                · rw [hq, up_s]; exact ⟨by omega, by omega, fun h => by omega⟩
                · rw [up_k hq]; exact hJ q q0 (by omega)
              · by_cases hq : q = k
                · rw [hq]
                  intro e
                  exact h65 ⟨p, a, by omega, by rw [(hJ p a (by omega)).1]; omega⟩
                · exact hD p q a b' (by omega)
            · refine V_aload_8 hx dX10_pickWords_73 ?_
              refine V_getIx 10 hx hF flX10_139 dX10_pickWords_75 rfl rfl hshb (fun r75 => ?_)
              refine V_if_eq (tgt := 84) hx dX10_pickWords_78 (by decide) (by omega) (fun h78 => ?_) (fun h78 => ?_)
              · refine V_aload_0 hx dX10_pickWords_84 ?_
                refine V_getRe hx flX10_74 dX10_pickWords_85 rfl (k0 hN) (hF.1 0 10 22 rfl) ?_
                refine V_aload_8 hx dX10_pickWords_88 ?_
                refine V_v1N hx el ed (c_X2_add hN hF (by omega) hshb (by omega)) myX2_add mlX10_346 dX10_pickWords_90 ⟨_, rfl, rfl⟩ (k22 hN) (by decide) (by omega) rfl (by first | exact Nat.le_of_ble_eq_true rfl | (simp only [List.map_cons, List.map_nil, List.sum_cons, List.sum_nil, vR_cat, cat_I, cat_L]; decide)) (fun N2 I2 ⟨eN, eI2, hF⟩ => ?_)
                subst eN
                refine V_iinc_7 hx (by first | exact nc_I | exact nc_R | exact nc_n) dX10_pickWords_93 ?_
                refine V_goto (tgt := 29) hx dX10_pickWords_96 (by decide) ?_
                refine V_drop_8 ?_
                refine ih _ ⟨hF, fun a q h1 h2 => by rw [eI2, up_n (by omega), up_c h1]; exact hM a q h1 h2, by rw [eI2, up_s]; omega, fun q q0 q1 => ?_, fun p q a b' c => ?_⟩
                · rw [eI2, up_c (by decide), h22]
                  by_cases hq : q = k
                  · rw [hq, up_s]; exact ⟨by omega, by omega, fun h => by omega⟩
                  · rw [up_k hq]; exact hJ q q0 (by omega)
                · by_cases hq : q = k
                  · rw [hq]
                    intro e
                    exact h65 ⟨p, a, by omega, by rw [(hJ p a (by omega)).1]; omega⟩
                  · exact hD p q a b' (by omega)
              · refine V_bipush hx dX10_pickWords_81 (by decide) ?_
                refine V_ireturn hx dX10_pickWords_83 (by omega) (by omega) ?_
                have hno : ¬ okPk I s i0 n mw := by
                  rintro ⟨q1, q2⟩
                  have q3 := q1 k hk0 hk1
                  first
                    | omega
                    | (obtain ⟨q, a, b', c⟩ := h65
                       have := (hJ q a (by omega)).1
                       exact q2 ⟨q, k, a, by omega, hk1, by omega⟩)
                exact ⟨_, rfl, rfl, hF, hM, by unfold pkF; rw [cif_t (by omega), cif_f hno], fun h => by omega⟩
  · refine V_iload_6 hx dX10_pickWords_16 ?_
    refine V_ireturn hx dX10_pickWords_18 (by omega) (by omega) ?_
    exact ⟨_, rfl, rfl, hF, fun _ _ _ _ => rfl, by unfold pkF; rw [cif_f (by omega)], fun h => by omega⟩

