set_option maxRecDepth 8000 in
theorem c_X11_come {l : Launch} {d : Dd} {z : Nat} {N : Int} {I : Mm} {s ln : Int} (hN : 67 ≤ N) (hF : Fx I) (hset : SetOK I) (hS : SS I) (hn1 : 0 ≤ I 49 6 ∧ I 49 6 ≤ 1000) (hn2 : 0 ≤ I 49 7 ∧ I 49 7 ≤ 99999) (hn3 : 0 ≤ I 49 8 ∧ I 49 8 ≤ 1584 * I 49 6) (hs : -2147483648 ≤ s ∧ s ≤ 2147483647) (hln : -2147483648 ≤ ln ∧ ln ≤ 2147483647) : Cn l d z yX11_come cX11_come 3 (some .int) 4 93 0 0 [vR z 49, vI s, vI ln] N I (pI (fun r N' I' => r = aCome I s ln ∧ I' = gCome I s ln ∧ N' = N ∧ Fx I')) := by
  refine Cn.ofA [(vR z 49, false), (vI s, false), (vI ln, false)] [some (vR z 49), some (vI s), some (vI ln)] RX11 (by decide) rfl ⟨cR z 49, rfl, rfl, trivial⟩ (Nat.le_of_ble_eq_true rfl) rfl (fun x ed el hx hini => ?_)
  refine V_iload_1 hx dX11_come_0 ?_
  refine V_s1P hx el ed (c_X11_isStream (by omega)) myX11_isStream mlX11_84 dX11_come_1 (by decide) (by omega) rfl (by first | exact Nat.le_of_ble_eq_true rfl | simp [vI, vL, vR_cat, Value.category]) ?_
  refine V_ifB_eq (tgt := 14) hx dX11_come_4 (by decide) (fun h4 => ?_) (fun h4 => ?_)
  · refine V_iconst hx dX11_come_14 ?_
    refine V_ireturn hx dX11_come_15 (by omega) (by omega) ?_
    exact ⟨_, rfl, by unfold aCome; (repeat (first | rw [cif_t (by omega)] | rw [cif_f (by omega)])); all_goals (exfalso; omega), by unfold gCome; (repeat (first | rw [cif_t (by omega)] | rw [cif_f (by omega)])); all_goals (exfalso; omega), rfl, hF⟩
  · refine V_iload_2 hx dX11_come_7 ?_
    refine V_s1P hx el ed (c_X11_isLength (by omega)) myX11_isLength mlX11_102 dX11_come_8 (by decide) (by omega) rfl (by first | exact Nat.le_of_ble_eq_true rfl | simp [vI, vL, vR_cat, Value.category]) ?_
    refine V_ifB_ne (tgt := 16) hx dX11_come_11 (by decide) (fun h11 => ?_) (fun h11 => ?_)
    · refine V_aload_0 hx dX11_come_16 ?_
      refine V_getIx 6 hx hF flX11_96 dX11_come_17 rfl rfl (k49 hN) (fun r17 => ?_)
      refine V_sipush hx dX11_come_20 (by decide) ?_
      refine V_icmp_ne (tgt := 31) hx dX11_come_23 (by decide) (by omega) (by omega) (fun h23 => ?_) (fun h23 => ?_)
      · refine V_aload_0 hx dX11_come_31 ?_
        refine V_iload_1 hx dX11_come_32 ?_
        refine V_iload_2 hx dX11_come_33 ?_
        refine V_v2I hx el ed (c_X11_comesNow hN hF (by omega) (by omega) hset hS (by omega) (by omega) (by omega)) myX11_comesNow mlX11_105 dX11_come_34 ⟨_, rfl, rfl⟩ (k49 hN) (by decide) (by omega) rfl (by first | exact Nat.le_of_ble_eq_true rfl | simp [vI, vL, vR_cat, Value.category]) (fun rv N2 I2 ⟨er, eI2, eN2, hF⟩ => ?_)
        subst eN2; subst er; subst eI2
        refine V_ireturn hx dX11_come_37 (by omega) (by omega) ?_
        exact ⟨_, rfl, by unfold aCome; (repeat (first | rw [cif_t (by omega)] | rw [cif_f (by omega)])); all_goals (exfalso; omega), by unfold gCome; (repeat (first | rw [cif_t (by omega)] | rw [cif_f (by omega)])); all_goals (exfalso; omega), rfl, hF⟩
      · refine V_bipush hx dX11_come_26 (by decide) ?_
        refine V_goto (tgt := 37) hx dX11_come_28 (by decide) ?_
        refine V_ireturn hx dX11_come_37 (by omega) (by omega) ?_
        exact ⟨_, rfl, by unfold aCome; (repeat (first | rw [cif_t (by omega)] | rw [cif_f (by omega)])); all_goals (exfalso; omega), by unfold gCome; (repeat (first | rw [cif_t (by omega)] | rw [cif_f (by omega)])); all_goals (exfalso; omega), rfl, hF⟩
    · refine V_iconst hx dX11_come_14 ?_
      refine V_ireturn hx dX11_come_15 (by omega) (by omega) ?_
      exact ⟨_, rfl, by unfold aCome; (repeat (first | rw [cif_t (by omega)] | rw [cif_f (by omega)])); all_goals (exfalso; omega), by unfold gCome; (repeat (first | rw [cif_t (by omega)] | rw [cif_f (by omega)])); all_goals (exfalso; omega), rfl, hF⟩

set_option maxRecDepth 8000 in
theorem c_X11_sheet {l : Launch} {d : Dd} {z : Nat} {N : Int} {I : Mm} {s lane n : Int} (hN : 67 ≤ N) (hF : Fx I) (hs : -2147483648 ≤ s ∧ s ≤ 2147483647) (hlane : -2147483648 ≤ lane ∧ lane ≤ 2147483647) (hn : -2147483648 ≤ n ∧ n ≤ 2147483647) : Cn l d z yX11_sheet cX11_sheet 5 (some .int) 2 45 0 0 [vR z 49, vI s, vI lane, vI n] N I (pI (fun r N' I' => r = aSheet s lane n ∧ I' = gSheet I s lane n ∧ N' = N ∧ Fx I')) := by
  refine Cn.ofA [(vR z 49, false), (vI s, false), (vI lane, false), (vI n, false)] [some (vR z 49), some (vI s), some (vI lane), some (vI n), none] RX11 (by decide) rfl ⟨cR z 49, rfl, rfl, rfl, trivial⟩ (Nat.le_of_ble_eq_true rfl) rfl (fun x ed el hx hini => ?_)
  refine V_iload_1 hx dX11_sheet_0 ?_
  refine V_s1P hx el ed (c_X11_isSheet (by omega)) myX11_isSheet mlX11_140 dX11_sheet_1 (by decide) (by omega) rfl (by first | exact Nat.le_of_ble_eq_true rfl | simp [vI, vL, vR_cat, Value.category]) ?_
  refine V_ifB_eq (tgt := 20) hx dX11_sheet_4 (by decide) (fun h4 => ?_) (fun h4 => ?_)
  · refine V_iconst hx dX11_sheet_20 ?_
    refine V_ireturn hx dX11_sheet_21 (by omega) (by omega) ?_
    exact ⟨_, rfl, by unfold aSheet; (repeat (first | rw [cif_t (by omega)] | rw [cif_f (by omega)])); all_goals (exfalso; omega), by unfold gSheet; (repeat (first | rw [cif_t (by omega)] | rw [cif_f (by omega)])); all_goals (exfalso; omega), rfl, hF⟩
  · refine V_iload_2 hx dX11_sheet_7 ?_
    refine V_s1P hx el ed (c_X11_isLane (by omega)) myX11_isLane mlX11_143 dX11_sheet_8 (by decide) (by omega) rfl (by first | exact Nat.le_of_ble_eq_true rfl | simp [vI, vL, vR_cat, Value.category]) ?_
    refine V_ifB_eq (tgt := 20) hx dX11_sheet_11 (by decide) (fun h11 => ?_) (fun h11 => ?_)
    · refine V_iconst hx dX11_sheet_20 ?_
      refine V_ireturn hx dX11_sheet_21 (by omega) (by omega) ?_
      exact ⟨_, rfl, by unfold aSheet; (repeat (first | rw [cif_t (by omega)] | rw [cif_f (by omega)])); all_goals (exfalso; omega), by unfold gSheet; (repeat (first | rw [cif_t (by omega)] | rw [cif_f (by omega)])); all_goals (exfalso; omega), rfl, hF⟩
    · refine V_iload_3 hx dX11_sheet_14 ?_
      refine V_bipush hx dX11_sheet_15 (by decide) ?_
      refine V_icmp_le (tgt := 22) hx dX11_sheet_17 (by decide) (by omega) (by omega) (fun h17 => ?_) (fun h17 => ?_)
      · refine V_iload_3 hx dX11_sheet_22 ?_
        refine V_if_ge (tgt := 29) hx dX11_sheet_23 (by decide) (by omega) (fun h23 => ?_) (fun h23 => ?_)
        · refine V_aload_0 hx dX11_sheet_29 ?_
          refine V_getRe hx flX11_34 dX11_sheet_30 rfl (k49 hN) (hF.1 49 15 58 rfl) ?_
          refine V_iload_1 hx dX11_sheet_33 ?_
          refine V_iload_2 hx dX11_sheet_34 ?_
          refine V_iastorex hx hF dX11_sheet_35 (k58 hN) (by decide) (by omega) (fx_none rfl _) (by omega) (Or.inl (by decide)) (fun hF => ?_)
          refine V_aload_0 hx dX11_sheet_36 ?_
          refine V_getRe hx flX11_37 dX11_sheet_37 rfl (k49 hN) (hF.1 49 16 59 rfl) ?_
          refine V_iload_1 hx dX11_sheet_40 ?_
          refine V_iload_3 hx dX11_sheet_41 ?_
          refine V_iastorex hx hF dX11_sheet_42 (k59 hN) (by decide) (by omega) (fx_none rfl _) (by omega) (Or.inl (by decide)) (fun hF => ?_)
          refine V_iconst hx dX11_sheet_43 ?_
          refine V_istore_4 hx (by first | exact nc_I | exact nc_R | exact nc_n) dX11_sheet_44 ?_
          refine loop_inv (α := Mm) 0 24 (by omega) (fun i M => M = fld (fun m i => up m 60 (24 * s + i) 0) (up (up I 58 s lane) 59 s n) i.toNat ∧ Fx M) (fun i M => V x z _ N M 0 0 46 [some (vR z 49), some (vI s), some (vI lane), some (vI n), some (vI i)] []) ?_ ?_ _ ⟨rfl, hF⟩
          · rintro M ⟨eM, hF⟩
            refine V_iload_4 hx dX11_sheet_46 ?_
            refine V_bipush hx dX11_sheet_48 (by decide) ?_
            refine V_icmp_ge (tgt := 72) hx dX11_sheet_50 (by decide) (by omega) (by omega) (fun h50 => ?_) (fun h50 => ?_)
            · refine V_iload_3 hx dX11_sheet_72 ?_
              refine V_ireturn hx dX11_sheet_73 (by omega) (by omega) ?_
              exact ⟨_, rfl, by unfold aSheet; (repeat (first | rw [cif_t (by omega)] | rw [cif_f (by omega)])); all_goals (exfalso; omega), by unfold gSheet; rw [eM, cif_t (by omega)]; rfl, rfl, hF⟩
            · exfalso; omega
          · rintro i M hi0 hi1 ⟨eM, hF⟩ ih
            refine V_iload_4 hx dX11_sheet_46 ?_
            refine V_bipush hx dX11_sheet_48 (by decide) ?_
            refine V_icmp_ge (tgt := 72) hx dX11_sheet_50 (by decide) (by omega) (by omega) (fun h50 => ?_) (fun h50 => ?_)
            · exfalso; omega
            · refine V_aload_0 hx dX11_sheet_53 ?_
              refine V_getRe hx flX11_40 dX11_sheet_54 rfl (k49 hN) (hF.1 49 17 60 rfl) ?_
              refine V_bipush hx dX11_sheet_57 (by decide) ?_
              refine V_iload_1 hx dX11_sheet_59 ?_
              refine V_imul hx dX11_sheet_60 ?_
              refine V_iload_4 hx dX11_sheet_61 ?_
              refine V_iadd hx dX11_sheet_63 ?_
              refine V_iconst hx dX11_sheet_64 ?_
              refine V_iastorex hx hF dX11_sheet_65 (k60 hN) (by decide) (by omega) (fx_none rfl _) (by omega) (Or.inl (by decide)) (fun hF => ?_)
              refine V_iinc_4 hx (by first | exact nc_I | exact nc_R | exact nc_n) dX11_sheet_66 ?_
              refine V_goto (tgt := 46) hx dX11_sheet_69 (by decide) ?_
              exact ih _ ⟨by rw [fld_s _ _ hi0, ← eM], hF⟩
        · refine V_bipush hx dX11_sheet_26 (by decide) ?_
          refine V_ireturn hx dX11_sheet_28 (by omega) (by omega) ?_
          exact ⟨_, rfl, by unfold aSheet; (repeat (first | rw [cif_t (by omega)] | rw [cif_f (by omega)])); all_goals (exfalso; omega), by unfold gSheet; (repeat (first | rw [cif_t (by omega)] | rw [cif_f (by omega)])); all_goals (exfalso; omega), rfl, hF⟩
      · refine V_iconst hx dX11_sheet_20 ?_
        refine V_ireturn hx dX11_sheet_21 (by omega) (by omega) ?_
        exact ⟨_, rfl, by unfold aSheet; (repeat (first | rw [cif_t (by omega)] | rw [cif_f (by omega)])); all_goals (exfalso; omega), by unfold gSheet; (repeat (first | rw [cif_t (by omega)] | rw [cif_f (by omega)])); all_goals (exfalso; omega), rfl, hF⟩

set_option maxRecDepth 8000 in
theorem c_X11_promise {l : Launch} {d : Dd} {z : Nat} {N : Int} {I : Mm} {s most : Int} (hN : 67 ≤ N) (hF : Fx I) (hset : SetOK I) (hs : -2147483648 ≤ s ∧ s ≤ 2147483647) (hmost : -2147483648 ≤ most ∧ most ≤ 2147483647) : Cn l d z yX11_promise cX11_promise 9 (some .int) 2 45 0 0 [vR z 49, vI s, vI most] N I (pv (vI (aProm I s most)) N I) := by
  refine Cn.ofA [(vR z 49, false), (vI s, false), (vI most, false)] [some (vR z 49), some (vI s), some (vI most), none, none, none, none, none, none] RX11 (by decide) rfl ⟨cR z 49, rfl, rfl, trivial⟩ (Nat.le_of_ble_eq_true rfl) rfl (fun x ed el hx hini => ?_)
  refine V_iload_1 hx dX11_promise_0 ?_
  refine V_s1P hx el ed (c_X11_isStream (by omega)) myX11_isStream mlX11_84 dX11_promise_1 (by decide) (by omega) rfl (by first | exact Nat.le_of_ble_eq_true rfl | simp [vI, vL, vR_cat, Value.category]) ?_
  refine V_ifB_eq (tgt := 14) hx dX11_promise_4 (by decide) (fun h4 => ?_) (fun h4 => ?_)
  · refine V_iconst hx dX11_promise_14 ?_
    refine V_ireturn hx dX11_promise_15 (by omega) (by omega) ?_
    exact ⟨by unfold aProm; (repeat (first | rw [cif_t (by omega)] | rw [cif_f (by omega)])); all_goals (exfalso; omega), rfl, rfl⟩
  · refine V_iload_2 hx dX11_promise_7 ?_
    refine V_s1P hx el ed (c_X11_isLength (by omega)) myX11_isLength mlX11_102 dX11_promise_8 (by decide) (by omega) rfl (by first | exact Nat.le_of_ble_eq_true rfl | simp [vI, vL, vR_cat, Value.category]) ?_
    refine V_ifB_ne (tgt := 16) hx dX11_promise_11 (by decide) (fun h11 => ?_) (fun h11 => ?_)
    · refine V_iload_2 hx dX11_promise_16 ?_
      refine V_istore_3 hx (by first | exact nc_I | exact nc_R | exact nc_n) dX11_promise_17 ?_
      refine V_iconst hx dX11_promise_18 ?_
      refine V_istore_4 hx (by first | exact nc_I | exact nc_R | exact nc_n) dX11_promise_19 ?_
      refine V_iconst hx dX11_promise_21 ?_
      refine V_istore_5 hx (by first | exact nc_I | exact nc_R | exact nc_n) dX11_promise_22 ?_
      refine V_iconst hx dX11_promise_24 ?_
      refine V_istore_6 hx (by first | exact nc_I | exact nc_R | exact nc_n) dX11_promise_25 ?_
      refine loop_fn 8 (by decide) (fun i => V x z _ N I 0 0 27 [some (vR z 49), some (vI s), some (vI most), some (vI (fld (fun a q => a + pB I s q) most i.toNat)), some (vI (fld (fun a q => a + pLs I s q) 0 i.toNat)), some (vI (fld (fun a q => a + pA I s q) 0 i.toNat)), some (vI i), none, none] []) ?_ ?_
      · have b1 := fld_bb (f := pB I s) (a0 := most) (B := 999) (m := 8) (fun q h0 h1 => (p_b hset s h0 (by omega)).1) (by decide) 8 (Nat.le_refl _)
        have b2 := fld_bb (f := pLs I s) (a0 := 0) (B := 16) (m := 8) (fun q h0 h1 => (p_b hset s h0 (by omega)).2.2) (by decide) 8 (Nat.le_refl _)
        have b3 := fld_bb (f := pA I s) (a0 := 0) (B := 16) (m := 8) (fun q h0 h1 => (p_b hset s h0 (by omega)).2.1) (by decide) 8 (Nat.le_refl _)
        have e8 : (8 : Int).toNat = 8 := rfl
        rw [e8]
        refine V_iload_6 hx dX11_promise_27 ?_
        refine V_bipush hx dX11_promise_29 (by decide) ?_
        refine V_icmp_ge (tgt := 149) hx dX11_promise_31 (by decide) (by omega) (by omega) (fun h31 => ?_) (fun h31 => ?_)
        · refine V_iload_5 hx dX11_promise_149 ?_
          refine V_bipush hx dX11_promise_151 (by decide) ?_
          refine V_icmp_gt (tgt := 163) hx dX11_promise_153 (by decide) (by omega) (by omega) (fun h153 => ?_) (fun h153 => ?_)
          · refine V_bipush hx dX11_promise_163 (by decide) ?_
            refine V_ireturn hx dX11_promise_165 (by omega) (by omega) ?_
            exact ⟨by unfold aProm; (repeat (first | rw [cif_t (by omega)] | rw [cif_f (by omega)])); all_goals (exfalso; omega), rfl, rfl⟩
          · refine V_iload_4 hx dX11_promise_156 ?_
            refine V_bipush hx dX11_promise_158 (by decide) ?_
            refine V_icmp_lt (tgt := 166) hx dX11_promise_160 (by decide) (by omega) (by omega) (fun h160 => ?_) (fun h160 => ?_)
            · refine V_bipush hx dX11_promise_166 (by decide) ?_
              refine V_iload_3 hx dX11_promise_168 ?_
              refine V_imul hx dX11_promise_169 ?_
              refine V_bipush hx dX11_promise_170 (by decide) ?_
              refine V_iadd hx dX11_promise_172 ?_
              refine V_iload_4 hx dX11_promise_173 ?_
              refine V_isub hx dX11_promise_175 ?_
              refine V_bipush hx dX11_promise_176 (by decide) ?_
              refine V_iload_4 hx dX11_promise_178 ?_
              refine V_isub hx dX11_promise_180 ?_
              refine V_idiv hx dX11_promise_181 (by omega) (by omega) ?_
              refine V_ireturn hx dX11_promise_182 (by omega) (by omega) ?_
              exact ⟨by unfold aProm; (repeat (first | rw [cif_t (by omega)] | rw [cif_f (by omega)])); all_goals (exfalso; omega), rfl, rfl⟩
            · refine V_bipush hx dX11_promise_163 (by decide) ?_
              refine V_ireturn hx dX11_promise_165 (by omega) (by omega) ?_
              exact ⟨by unfold aProm; (repeat (first | rw [cif_t (by omega)] | rw [cif_f (by omega)])); all_goals (exfalso; omega), rfl, rfl⟩
        · exfalso; omega
      · intro i hi0 hi1 ih
        refine V_iload_6 hx dX11_promise_27 ?_
        refine V_bipush hx dX11_promise_29 (by decide) ?_
        refine V_icmp_ge (tgt := 149) hx dX11_promise_31 (by decide) (by omega) (by omega) (fun h31 => ?_) (fun h31 => ?_)
        · exfalso; omega
        · refine V_aload_0 hx dX11_promise_34 ?_
          refine V_iload_6 hx dX11_promise_35 ?_
          refine V_iconst hx dX11_promise_37 ?_
          refine V_v2Q hx el ed (c_X11_setOf hN hF (by omega)) myX11_setOf mlX11_92 dX11_promise_38 ⟨_, rfl, rfl⟩ (k49 hN) (by decide) (by omega) rfl (by first | exact Nat.le_of_ble_eq_true rfl | simp [vI, vL, vR_cat, Value.category]) (fun r38 => ?_)
          refine V_aload_0 hx dX11_promise_41 ?_
          refine V_iload_1 hx dX11_promise_42 ?_
          refine V_iconst hx dX11_promise_43 ?_
          refine V_v2Q hx el ed (c_X11_setOf hN hF (by omega)) myX11_setOf mlX11_92 dX11_promise_44 ⟨_, rfl, rfl⟩ (k49 hN) (by decide) (by omega) rfl (by first | exact Nat.le_of_ble_eq_true rfl | simp [vI, vL, vR_cat, Value.category]) (fun r44 => ?_)
          refine V_icmp_ge (tgt := 54) hx dX11_promise_47 (by decide) (by omega) (by omega) (fun h47 => ?_) (fun h47 => ?_)
          · refine V_iconst hx dX11_promise_54 ?_
            refine V_istore_7 hx (by first | exact nc_I | exact nc_R | exact nc_n) dX11_promise_55 ?_
            refine V_aload_0 hx dX11_promise_57 ?_
            refine V_iload_6 hx dX11_promise_58 ?_
            refine V_iconst hx dX11_promise_60 ?_
            refine V_v2Q hx el ed (c_X11_setOf hN hF (by omega)) myX11_setOf mlX11_92 dX11_promise_61 ⟨_, rfl, rfl⟩ (k49 hN) (by decide) (by omega) rfl (by first | exact Nat.le_of_ble_eq_true rfl | simp [vI, vL, vR_cat, Value.category]) (fun r61 => ?_)
            refine V_aload_0 hx dX11_promise_64 ?_
            refine V_iload_1 hx dX11_promise_65 ?_
            refine V_iconst hx dX11_promise_66 ?_
            refine V_v2Q hx el ed (c_X11_setOf hN hF (by omega)) myX11_setOf mlX11_92 dX11_promise_67 ⟨_, rfl, rfl⟩ (k49 hN) (by decide) (by omega) rfl (by first | exact Nat.le_of_ble_eq_true rfl | simp [vI, vL, vR_cat, Value.category]) (fun r67 => ?_)
            refine V_icmp_gt (tgt := 77) hx dX11_promise_70 (by decide) (by omega) (by omega) (fun h70 => ?_) (fun h70 => ?_)
            · refine V_iconst hx dX11_promise_77 ?_
              refine V_istore_8 hx (by first | exact nc_I | exact nc_R | exact nc_n) dX11_promise_78 ?_
              refine V_iload_3 hx dX11_promise_80 ?_
              refine V_iload_8 hx dX11_promise_81 ?_
              refine V_if_eq (tgt := 96) hx dX11_promise_83 (by decide) (by omega) (fun _ => ?_) (fun h => absurd h (by decide))
              refine V_iconst hx dX11_promise_96 ?_
              refine V_iadd hx dX11_promise_97 ?_
              refine V_istore_3 hx (by first | exact nc_I | exact nc_R | exact nc_n) dX11_promise_98 ?_
              refine V_iload_4 hx dX11_promise_99 ?_
              refine V_iload_7 hx dX11_promise_101 ?_
              refine V_if_eq (tgt := 117) hx dX11_promise_103 (by decide) (by omega) (fun _ => ?_) (fun h => absurd h (by decide))
              refine V_iconst hx dX11_promise_117 ?_
              refine V_iadd hx dX11_promise_118 ?_
              refine V_istore_4 hx (by first | exact nc_I | exact nc_R | exact nc_n) dX11_promise_119 ?_
              refine V_iload_5 hx dX11_promise_121 ?_
              refine V_iload_8 hx dX11_promise_123 ?_
              refine V_if_eq (tgt := 139) hx dX11_promise_125 (by decide) (by omega) (fun _ => ?_) (fun h => absurd h (by decide))
              refine V_iconst hx dX11_promise_139 ?_
              refine V_iadd hx dX11_promise_140 ?_
              refine V_istore_5 hx (by first | exact nc_I | exact nc_R | exact nc_n) dX11_promise_141 ?_
              refine V_iinc_6 hx (by first | exact nc_I | exact nc_R | exact nc_n) dX11_promise_143 ?_
              refine V_goto (tgt := 27) hx dX11_promise_146 (by decide) ?_
              refine V_drop_7 ?_
              refine V_drop_8 ?_
              rw [fld_s _ _ hi0, fld_s _ _ hi0, fld_s _ _ hi0] at ih
              first | (exfalso; omega) | skip
              all_goals (unfold pB pA pLs at ih; (repeat (first | rw [cif_t (by omega)] at ih | rw [cif_f (by omega)] at ih)); exact ih)
            · refine V_iconst hx dX11_promise_73 ?_
              refine V_goto (tgt := 78) hx dX11_promise_74 (by decide) ?_
              refine V_istore_8 hx (by first | exact nc_I | exact nc_R | exact nc_n) dX11_promise_78 ?_
              refine V_iload_3 hx dX11_promise_80 ?_
              refine V_iload_8 hx dX11_promise_81 ?_
              refine V_if_eq (tgt := 96) hx dX11_promise_83 (by decide) (by omega) (fun h => absurd h (by decide)) (fun _ => ?_)
              refine V_aload_0 hx dX11_promise_86 ?_
              refine V_iload_6 hx dX11_promise_87 ?_
              refine V_iconst hx dX11_promise_89 ?_
              refine V_v2Q hx el ed (c_X11_setOf hN hF (by omega)) myX11_setOf mlX11_92 dX11_promise_90 ⟨_, rfl, rfl⟩ (k49 hN) (by decide) (by omega) rfl (by first | exact Nat.le_of_ble_eq_true rfl | simp [vI, vL, vR_cat, Value.category]) (fun r90 => ?_)
              refine V_goto (tgt := 97) hx dX11_promise_93 (by decide) ?_
              refine V_iadd hx dX11_promise_97 ?_
              refine V_istore_3 hx (by first | exact nc_I | exact nc_R | exact nc_n) dX11_promise_98 ?_
              refine V_iload_4 hx dX11_promise_99 ?_
              refine V_iload_7 hx dX11_promise_101 ?_
              refine V_if_eq (tgt := 117) hx dX11_promise_103 (by decide) (by omega) (fun _ => ?_) (fun h => absurd h (by decide))
              refine V_iconst hx dX11_promise_117 ?_
              refine V_iadd hx dX11_promise_118 ?_
              refine V_istore_4 hx (by first | exact nc_I | exact nc_R | exact nc_n) dX11_promise_119 ?_
              refine V_iload_5 hx dX11_promise_121 ?_
              refine V_iload_8 hx dX11_promise_123 ?_
              refine V_if_eq (tgt := 139) hx dX11_promise_125 (by decide) (by omega) (fun h => absurd h (by decide)) (fun _ => ?_)
              refine V_aload_0 hx dX11_promise_128 ?_
              refine V_iload_6 hx dX11_promise_129 ?_
              refine V_bipush hx dX11_promise_131 (by decide) ?_
              refine V_v2Q hx el ed (c_X11_setOf hN hF (by omega)) myX11_setOf mlX11_92 dX11_promise_133 ⟨_, rfl, rfl⟩ (k49 hN) (by decide) (by omega) rfl (by first | exact Nat.le_of_ble_eq_true rfl | simp [vI, vL, vR_cat, Value.category]) (fun r133 => ?_)
              refine V_goto (tgt := 140) hx dX11_promise_136 (by decide) ?_
              refine V_iadd hx dX11_promise_140 ?_
              refine V_istore_5 hx (by first | exact nc_I | exact nc_R | exact nc_n) dX11_promise_141 ?_
              refine V_iinc_6 hx (by first | exact nc_I | exact nc_R | exact nc_n) dX11_promise_143 ?_
              refine V_goto (tgt := 27) hx dX11_promise_146 (by decide) ?_
              refine V_drop_7 ?_
              refine V_drop_8 ?_
              rw [fld_s _ _ hi0, fld_s _ _ hi0, fld_s _ _ hi0] at ih
              first | (exfalso; omega) | skip
              all_goals (unfold pB pA pLs at ih; (repeat (first | rw [cif_t (by omega)] at ih | rw [cif_f (by omega)] at ih)); exact ih)
          · refine V_iconst hx dX11_promise_50 ?_
            refine V_goto (tgt := 55) hx dX11_promise_51 (by decide) ?_
            refine V_istore_7 hx (by first | exact nc_I | exact nc_R | exact nc_n) dX11_promise_55 ?_
            refine V_aload_0 hx dX11_promise_57 ?_
            refine V_iload_6 hx dX11_promise_58 ?_
            refine V_iconst hx dX11_promise_60 ?_
            refine V_v2Q hx el ed (c_X11_setOf hN hF (by omega)) myX11_setOf mlX11_92 dX11_promise_61 ⟨_, rfl, rfl⟩ (k49 hN) (by decide) (by omega) rfl (by first | exact Nat.le_of_ble_eq_true rfl | simp [vI, vL, vR_cat, Value.category]) (fun r61 => ?_)
            refine V_aload_0 hx dX11_promise_64 ?_
            refine V_iload_1 hx dX11_promise_65 ?_
            refine V_iconst hx dX11_promise_66 ?_
            refine V_v2Q hx el ed (c_X11_setOf hN hF (by omega)) myX11_setOf mlX11_92 dX11_promise_67 ⟨_, rfl, rfl⟩ (k49 hN) (by decide) (by omega) rfl (by first | exact Nat.le_of_ble_eq_true rfl | simp [vI, vL, vR_cat, Value.category]) (fun r67 => ?_)
            refine V_icmp_gt (tgt := 77) hx dX11_promise_70 (by decide) (by omega) (by omega) (fun h70 => ?_) (fun h70 => ?_)
            · refine V_iconst hx dX11_promise_77 ?_
              refine V_istore_8 hx (by first | exact nc_I | exact nc_R | exact nc_n) dX11_promise_78 ?_
              refine V_iload_3 hx dX11_promise_80 ?_
              refine V_iload_8 hx dX11_promise_81 ?_
              refine V_if_eq (tgt := 96) hx dX11_promise_83 (by decide) (by omega) (fun _ => ?_) (fun h => absurd h (by decide))
              refine V_iconst hx dX11_promise_96 ?_
              refine V_iadd hx dX11_promise_97 ?_
              refine V_istore_3 hx (by first | exact nc_I | exact nc_R | exact nc_n) dX11_promise_98 ?_
              refine V_iload_4 hx dX11_promise_99 ?_
              refine V_iload_7 hx dX11_promise_101 ?_
              refine V_if_eq (tgt := 117) hx dX11_promise_103 (by decide) (by omega) (fun h => absurd h (by decide)) (fun _ => ?_)
              refine V_aload_0 hx dX11_promise_106 ?_
              refine V_iload_6 hx dX11_promise_107 ?_
              refine V_bipush hx dX11_promise_109 (by decide) ?_
              refine V_v2Q hx el ed (c_X11_setOf hN hF (by omega)) myX11_setOf mlX11_92 dX11_promise_111 ⟨_, rfl, rfl⟩ (k49 hN) (by decide) (by omega) rfl (by first | exact Nat.le_of_ble_eq_true rfl | simp [vI, vL, vR_cat, Value.category]) (fun r111 => ?_)
              refine V_goto (tgt := 118) hx dX11_promise_114 (by decide) ?_
              refine V_iadd hx dX11_promise_118 ?_
              refine V_istore_4 hx (by first | exact nc_I | exact nc_R | exact nc_n) dX11_promise_119 ?_
              refine V_iload_5 hx dX11_promise_121 ?_
              refine V_iload_8 hx dX11_promise_123 ?_
              refine V_if_eq (tgt := 139) hx dX11_promise_125 (by decide) (by omega) (fun _ => ?_) (fun h => absurd h (by decide))
              refine V_iconst hx dX11_promise_139 ?_
              refine V_iadd hx dX11_promise_140 ?_
              refine V_istore_5 hx (by first | exact nc_I | exact nc_R | exact nc_n) dX11_promise_141 ?_
              refine V_iinc_6 hx (by first | exact nc_I | exact nc_R | exact nc_n) dX11_promise_143 ?_
              refine V_goto (tgt := 27) hx dX11_promise_146 (by decide) ?_
              refine V_drop_7 ?_
              refine V_drop_8 ?_
              rw [fld_s _ _ hi0, fld_s _ _ hi0, fld_s _ _ hi0] at ih
              first | (exfalso; omega) | skip
              all_goals (unfold pB pA pLs at ih; (repeat (first | rw [cif_t (by omega)] at ih | rw [cif_f (by omega)] at ih)); exact ih)
            · refine V_iconst hx dX11_promise_73 ?_
              refine V_goto (tgt := 78) hx dX11_promise_74 (by decide) ?_
              refine V_istore_8 hx (by first | exact nc_I | exact nc_R | exact nc_n) dX11_promise_78 ?_
              refine V_iload_3 hx dX11_promise_80 ?_
              refine V_iload_8 hx dX11_promise_81 ?_
              refine V_if_eq (tgt := 96) hx dX11_promise_83 (by decide) (by omega) (fun h => absurd h (by decide)) (fun _ => ?_)
              refine V_aload_0 hx dX11_promise_86 ?_
              refine V_iload_6 hx dX11_promise_87 ?_
              refine V_iconst hx dX11_promise_89 ?_
              refine V_v2Q hx el ed (c_X11_setOf hN hF (by omega)) myX11_setOf mlX11_92 dX11_promise_90 ⟨_, rfl, rfl⟩ (k49 hN) (by decide) (by omega) rfl (by first | exact Nat.le_of_ble_eq_true rfl | simp [vI, vL, vR_cat, Value.category]) (fun r90 => ?_)
              refine V_goto (tgt := 97) hx dX11_promise_93 (by decide) ?_
              refine V_iadd hx dX11_promise_97 ?_
              refine V_istore_3 hx (by first | exact nc_I | exact nc_R | exact nc_n) dX11_promise_98 ?_
              refine V_iload_4 hx dX11_promise_99 ?_
              refine V_iload_7 hx dX11_promise_101 ?_
              refine V_if_eq (tgt := 117) hx dX11_promise_103 (by decide) (by omega) (fun h => absurd h (by decide)) (fun _ => ?_)
              refine V_aload_0 hx dX11_promise_106 ?_
              refine V_iload_6 hx dX11_promise_107 ?_
              refine V_bipush hx dX11_promise_109 (by decide) ?_
              refine V_v2Q hx el ed (c_X11_setOf hN hF (by omega)) myX11_setOf mlX11_92 dX11_promise_111 ⟨_, rfl, rfl⟩ (k49 hN) (by decide) (by omega) rfl (by first | exact Nat.le_of_ble_eq_true rfl | simp [vI, vL, vR_cat, Value.category]) (fun r111 => ?_)
              refine V_goto (tgt := 118) hx dX11_promise_114 (by decide) ?_
              refine V_iadd hx dX11_promise_118 ?_
              refine V_istore_4 hx (by first | exact nc_I | exact nc_R | exact nc_n) dX11_promise_119 ?_
              refine V_iload_5 hx dX11_promise_121 ?_
              refine V_iload_8 hx dX11_promise_123 ?_
              refine V_if_eq (tgt := 139) hx dX11_promise_125 (by decide) (by omega) (fun h => absurd h (by decide)) (fun _ => ?_)
              refine V_aload_0 hx dX11_promise_128 ?_
              refine V_iload_6 hx dX11_promise_129 ?_
              refine V_bipush hx dX11_promise_131 (by decide) ?_
              refine V_v2Q hx el ed (c_X11_setOf hN hF (by omega)) myX11_setOf mlX11_92 dX11_promise_133 ⟨_, rfl, rfl⟩ (k49 hN) (by decide) (by omega) rfl (by first | exact Nat.le_of_ble_eq_true rfl | simp [vI, vL, vR_cat, Value.category]) (fun r133 => ?_)
              refine V_goto (tgt := 140) hx dX11_promise_136 (by decide) ?_
              refine V_iadd hx dX11_promise_140 ?_
              refine V_istore_5 hx (by first | exact nc_I | exact nc_R | exact nc_n) dX11_promise_141 ?_
              refine V_iinc_6 hx (by first | exact nc_I | exact nc_R | exact nc_n) dX11_promise_143 ?_
              refine V_goto (tgt := 27) hx dX11_promise_146 (by decide) ?_
              refine V_drop_7 ?_
              refine V_drop_8 ?_
              rw [fld_s _ _ hi0, fld_s _ _ hi0, fld_s _ _ hi0] at ih
              first | (exfalso; omega) | skip
              all_goals (unfold pB pA pLs at ih; (repeat (first | rw [cif_t (by omega)] at ih | rw [cif_f (by omega)] at ih)); exact ih)
    · refine V_iconst hx dX11_promise_14 ?_
      refine V_ireturn hx dX11_promise_15 (by omega) (by omega) ?_
      exact ⟨by unfold aProm; (repeat (first | rw [cif_t (by omega)] | rw [cif_f (by omega)])); all_goals (exfalso; omega), rfl, rfl⟩

