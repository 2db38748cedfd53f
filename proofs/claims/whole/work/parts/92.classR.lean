set_option maxRecDepth 8000 in
theorem c_X10_lags {l : Launch} {d : Dd} {z : Nat} {N : Int} {I : Mm} {s : Int}  (hI : Inv I N) (hs : -2147483648 ≤ s ∧ s ≤ 2147483647) : Cn l d z yX10_lags cX10_lags 6 (some .int) 2 44 0 0 [vR z 0, vI s] N I (pv (vI (aLags I s)) N I) := by
  refine Cn.ofA [(vR z 0, false), (vI s, false)] [some (vR z 0), some (vI s), none, none, none, none] RX10 (by decide) rfl ⟨cR z 0, rfl, trivial⟩ (Nat.le_of_ble_eq_true rfl) rfl (fun x ed el hx hini => ?_)
  have hN := hI.nb.1
  have hF := hI.fx
  have hnb := hI.nb
  have hmy := hI.n
  have hpo := hI.po
  have hsn := hI.sn
  obtain ⟨p1, p2, p3, p4, p5, p6, p7, p8, p9, p10⟩ := hpo
  refine V_aload_0 hx dX10_lags_0 ?_
  refine V_iload_1 hx dX10_lags_1 ?_
  refine V_v1P hx el ed (c_X10_streamAt hN hF (by omega)) myX10_streamAt mlX10_80 dX10_lags_2 ⟨_, rfl, rfl⟩ (k0 hN) (by decide) (by omega) rfl (by first | exact Nat.le_of_ble_eq_true rfl | (simp only [List.map_cons, List.map_nil, List.sum_cons, List.sum_nil, vR_cat, cat_I, cat_L]; decide)) ?_
  obtain ⟨b, hb⟩ : ∃ b : Int, b = cif (0 ≤ s ∧ s ≤ 7) (25 + 2 * s) (-1) := ⟨_, rfl⟩
  rw [← hb]
  have hbs : ((0 ≤ s ∧ s ≤ 7) ∧ b = 25 + 2 * s) ∨ (¬ (0 ≤ s ∧ s ≤ 7) ∧ b = -1) := by
    by_cases c : 0 ≤ s ∧ s ≤ 7
    · rw [cif_t c] at hb; exact Or.inl ⟨c, hb⟩
    · rw [cif_f c] at hb; exact Or.inr ⟨c, hb⟩
  refine V_astore_2 hx (by first | exact nc_I | exact nc_R | exact nc_n) dX10_lags_5 ?_
  refine V_aload_2 hx dX10_lags_6 ?_
  refine V_ifnonnull (tgt := 13) hx dX10_lags_7 (by decide) (fun h7 => ?_) (fun h7 => ?_)
  · have hS : StC I N b := by rw [show b = 25 + 2 * s by omega]; exact stC hN hF (by omega) (by omega)
    have hcs := hI.st s (by omega) (by omega)
    have eb1 : b + 1 = 26 + 2 * s := by omega
    rw [← show b = 25 + 2 * s by omega, ← eb1] at hcs
    refine V_aload_0 hx dX10_lags_13 ?_
    refine V_aload_2 hx dX10_lags_14 ?_
    refine V_v1P hx el ed (c_X10_takesPart hN hF hI.sto hS) myX10_takesPart mlX10_253 dX10_lags_15 ⟨_, rfl, rfl⟩ (k0 hN) (by decide) (by omega) rfl (by first | exact Nat.le_of_ble_eq_true rfl | (simp only [List.map_cons, List.map_nil, List.sum_cons, List.sum_nil, vR_cat, cat_I, cat_L]; decide)) ?_
    have hno : I b 0 = s := by rw [show b = 25 + 2 * s by omega]; exact str_no hF (by omega) (by omega)
    rw [hno]
    have hpi := part_in hI (s := s) (by omega) (by omega)
    rw [← show b = 25 + 2 * s by omega] at hpi
    rw [vB_iff hpi]
    refine V_ifB_ne (tgt := 24) hx dX10_lags_18 (by decide) (fun h18 => ?_) (fun h18 => ?_)
    · refine V_iconst hx dX10_lags_24 ?_
      refine V_istore_3 hx (by first | exact nc_I | exact nc_R | exact nc_n) dX10_lags_25 ?_
      refine V_iconst hx dX10_lags_26 ?_
      refine V_istore_4 hx (by first | exact nc_I | exact nc_R | exact nc_n) dX10_lags_27 ?_
      refine V_iconst hx dX10_lags_29 ?_
      refine V_istore_5 hx (by first | exact nc_I | exact nc_R | exact nc_n) dX10_lags_30 ?_
      have hin : isInS I s := by assumption
      have hT : ∀ q : Int, 0 ≤ q → q ≤ 7 → 0 ≤ I 54 q ∧ I 54 q ≤ 99000 := fun q q0 q1 => by
        have h1 := (hI.ss q q0 q1).2.2.2
        have h2 := cntW_b (fun w => I 55 (13 * w + 9) = 2) (I 49 6).toNat
        omega
      refine loop_fn 8 (by decide) (fun i => V x z _ N I 0 0 32 [some (vR z 0), some (vI s), some (vR z b), some (vI (fld (fun a q => a + shr I q) 0 i.toNat)), some (vI (fld (fun a q => a + I 54 q) 0 i.toNat)), some (vI i)] []) ?_ ?_
      · have b1 := fld_bb (f := shr I) (a0 := 0) (B := 16) (m := 8) (fun q h0 h1 => shr_b hI.set h0 (by omega)) (by decide) 8 (Nat.le_refl _)
        have b2 := fld_bb (f := fun q => I 54 q) (a0 := 0) (B := 99000) (m := 8) (fun q h0 h1 => hT q h0 (by omega)) (by decide) 8 (Nat.le_refl _)
        have b3 := hI.set.at (s := s) (by omega) (by omega)
        have b4 := hT s (by omega) (by omega)
        have b5 := shr_pos hI.set (by omega) (by omega) hin
        have hS2 : shk N (26 + 2 * s) (1, 7) := by rw [← eb1]; exact hS.2.2.1
        have m1 := mulb (a := I 50 (7 * s + 1)) (b := fld (fun a q => a + I 54 q) 0 8) (A := 16) (B := 800000) (by omega) (by omega)
        have m2 := mulb (a := fld (fun a q => a + shr I q) 0 8) (b := I 54 s) (A := 128) (B := 99000) (by omega) (by omega)
        have e8 : (8 : Int).toNat = 8 := rfl
        rw [e8]
        refine V_iload_5 hx dX10_lags_32 ?_
        refine V_bipush hx dX10_lags_34 (by decide) ?_
        refine V_icmp_ge (tgt := 93) hx dX10_lags_36 (by decide) (by omega) (by omega) (fun h36 => ?_) (fun h36 => ?_)
        · refine V_aload_2 hx dX10_lags_93 ?_
          refine V_getRe hx flX10_247 dX10_lags_94 rfl hS.1 hS.2.1 ?_
          rw [eb1]
          refine V_iconst hx dX10_lags_97 ?_
          refine V_ialoadx hx hF dX10_lags_98 hS2 (by decide) (by omega) (fun r98 => ?_)
          rw [show I (26 + 2 * s) 1 = I 50 (7 * s + 1) by rw [← eb1]; exact hcs.1 1 (by omega) (by omega)]
          refine V_iload_4 hx dX10_lags_99 ?_
          refine V_imul hx dX10_lags_101 ?_
          refine V_iload_3 hx dX10_lags_102 ?_
          refine V_aload_2 hx dX10_lags_103 ?_
          refine V_getIx 5 hx hF flX10_193 dX10_lags_104 rfl rfl hS.1 (fun r104 => ?_)
          rw [show I b 5 = I 54 s from hcs.2.2.2.2]
          refine V_imul hx dX10_lags_107 ?_
          refine V_isub hx dX10_lags_108 ?_
          refine V_istore_5 hx (by first | exact nc_I | exact nc_R | exact nc_n) dX10_lags_109 ?_
          refine V_iload_3 hx dX10_lags_111 ?_
          refine V_if_le (tgt := 124) hx dX10_lags_112 (by decide) (by omega) (fun h112 => ?_) (fun h112 => ?_)
          · exfalso; omega
          · refine V_iload_5 hx dX10_lags_115 ?_
            refine V_iload_3 hx dX10_lags_117 ?_
            refine V_s2Q hx el ed (c_J9_floorDiv_7cf53 (by omega) (by omega)) myJ9_floorDiv_7cf53 mlX10_257 dX10_lags_118 (by decide) (by omega) rfl (by first | exact Nat.le_of_ble_eq_true rfl | (simp only [List.map_cons, List.map_nil, List.sum_cons, List.sum_nil, vR_cat, cat_I, cat_L]; decide)) (fun r118 => ?_)
            refine V_goto (tgt := 125) hx dX10_lags_121 (by decide) ?_
            refine V_ireturn hx dX10_lags_125 (by omega) (by omega) ?_
            exact ⟨congrArg (fun v => some (vI v)) (by unfold aLags; rw [cif_t (by omega), cif_t hin]), rfl, rfl⟩
        · exfalso; omega
      · intro i hi0 hi1 ih
        have hst := stC hN hF (s := i) (by omega) (by omega)
        have hst2 : shk N (26 + 2 * i) (1, 7) := by have := hst.2.2.1; rw [show 25 + 2 * i + 1 = 26 + 2 * i by omega] at this; exact this
        refine V_iload_5 hx dX10_lags_32 ?_
        refine V_bipush hx dX10_lags_34 (by decide) ?_
        refine V_icmp_ge (tgt := 93) hx dX10_lags_36 (by decide) (by omega) (by omega) (fun h36 => ?_) (fun h36 => ?_)
        · exfalso; omega
        · refine V_iload_3 hx dX10_lags_39 ?_
          refine V_aload_0 hx dX10_lags_40 ?_
          refine V_aload_0 hx dX10_lags_41 ?_
          refine V_getRe hx flX10_11 dX10_lags_42 rfl (k0 hN) (hF.1 0 0 1 rfl) ?_
          refine V_iload_5 hx dX10_lags_45 ?_
          refine V_aaload hx dX10_lags_47 (k1 hN) (by unfold refK; omega) (by decide) (by omega) ?_
          rw [str_at hF (by omega) (by omega)]
          refine V_v1P hx el ed (c_X10_takesPart hN hF hI.sto hst) myX10_takesPart mlX10_253 dX10_lags_48 ⟨_, rfl, rfl⟩ (k0 hN) (by decide) (by omega) rfl (by first | exact Nat.le_of_ble_eq_true rfl | (simp only [List.map_cons, List.map_nil, List.sum_cons, List.sum_nil, vR_cat, cat_I, cat_L]; decide)) ?_
          rw [str_no hF (by omega) (by omega), vB_iff (part_in hI (s := i) (by omega) (by omega))]
          refine V_ifB_eq (tgt := 69) hx dX10_lags_51 (by decide) (fun h51 => ?_) (fun h51 => ?_)
          · refine V_iconst hx dX10_lags_69 ?_
            refine V_iadd hx dX10_lags_70 ?_
            refine V_istore_3 hx (by first | exact nc_I | exact nc_R | exact nc_n) dX10_lags_71 ?_
            refine V_iload_4 hx dX10_lags_72 ?_
            refine V_aload_0 hx dX10_lags_74 ?_
            refine V_getRe hx flX10_11 dX10_lags_75 rfl (k0 hN) (hF.1 0 0 1 rfl) ?_
            refine V_iload_5 hx dX10_lags_78 ?_
            refine V_aaload hx dX10_lags_80 (k1 hN) (by unfold refK; omega) (by decide) (by omega) ?_
            rw [str_at hF (by omega) (by omega)]
            refine V_getIx 5 hx hF flX10_193 dX10_lags_81 rfl rfl hst.1 (fun r81 => ?_)
            rw [show I (25 + 2 * i) 5 = I 54 i from (hI.st i (by omega) (by omega)).2.2.2.2]
            refine V_iadd hx dX10_lags_84 ?_
            refine V_istore_4 hx (by first | exact nc_I | exact nc_R | exact nc_n) dX10_lags_85 ?_
            refine V_iinc_5 hx (by first | exact nc_I | exact nc_R | exact nc_n) dX10_lags_87 ?_
            refine V_goto (tgt := 32) hx dX10_lags_90 (by decide) ?_
            rw [fld_s _ _ hi0, fld_s _ _ hi0] at ih
            unfold shr at ih
            first | (rw [cif_t (by assumption)] at ih; exact ih) | (rw [cif_f (by assumption)] at ih; exact ih)
          · refine V_aload_0 hx dX10_lags_54 ?_
            refine V_getRe hx flX10_11 dX10_lags_55 rfl (k0 hN) (hF.1 0 0 1 rfl) ?_
            refine V_iload_5 hx dX10_lags_58 ?_
            refine V_aaload hx dX10_lags_60 (k1 hN) (by unfold refK; omega) (by decide) (by omega) ?_
            rw [str_at hF (by omega) (by omega)]
            refine V_getRe hx flX10_247 dX10_lags_61 rfl hst.1 hst.2.1 ?_
            rw [show 25 + 2 * i + 1 = 26 + 2 * i by omega]
            refine V_iconst hx dX10_lags_64 ?_
            refine V_ialoadx hx hF dX10_lags_65 hst2 (by decide) (by omega) (fun r65 => ?_)
            rw [show I (26 + 2 * i) 1 = I 50 (7 * i + 1) from (hI.st i (by omega) (by omega)).1 1 (by omega) (by omega)]
            refine V_goto (tgt := 70) hx dX10_lags_66 (by decide) ?_
            refine V_iadd hx dX10_lags_70 ?_
            refine V_istore_3 hx (by first | exact nc_I | exact nc_R | exact nc_n) dX10_lags_71 ?_
            refine V_iload_4 hx dX10_lags_72 ?_
            refine V_aload_0 hx dX10_lags_74 ?_
            refine V_getRe hx flX10_11 dX10_lags_75 rfl (k0 hN) (hF.1 0 0 1 rfl) ?_
            refine V_iload_5 hx dX10_lags_78 ?_
            refine V_aaload hx dX10_lags_80 (k1 hN) (by unfold refK; omega) (by decide) (by omega) ?_
            rw [str_at hF (by omega) (by omega)]
            refine V_getIx 5 hx hF flX10_193 dX10_lags_81 rfl rfl hst.1 (fun r81 => ?_)
            rw [show I (25 + 2 * i) 5 = I 54 i from (hI.st i (by omega) (by omega)).2.2.2.2]
            refine V_iadd hx dX10_lags_84 ?_
            refine V_istore_4 hx (by first | exact nc_I | exact nc_R | exact nc_n) dX10_lags_85 ?_
            refine V_iinc_5 hx (by first | exact nc_I | exact nc_R | exact nc_n) dX10_lags_87 ?_
            refine V_goto (tgt := 32) hx dX10_lags_90 (by decide) ?_
            rw [fld_s _ _ hi0, fld_s _ _ hi0] at ih
            unfold shr at ih
            first | (rw [cif_t (by assumption)] at ih; exact ih) | (rw [cif_f (by assumption)] at ih; exact ih)
    · refine V_ldc (v := -100004) hx kcX10_238 dX10_lags_21 (by decide) ?_
      refine V_ireturn hx dX10_lags_23 (by omega) (by omega) ?_
      exact ⟨congrArg (fun v => some (vI v)) (by unfold aLags; rw [cif_t (by omega), cif_f (by assumption)]), rfl, rfl⟩
  · refine V_ldc (v := -100001) hx kcX10_234 dX10_lags_10 (by decide) ?_
    refine V_ireturn hx dX10_lags_12 (by omega) (by omega) ?_
    exact ⟨congrArg (fun v => some (vI v)) (by unfold aLags; (repeat (first | rw [cif_t (by omega)] | rw [cif_f (by omega)])); all_goals omega), rfl, rfl⟩

set_option maxRecDepth 8000 in
theorem c_X10_sheet {l : Launch} {d : Dd} {z : Nat} {N : Int} {I : Mm} {s lane n : Int}  (hI : Inv I N) (hs : -2147483648 ≤ s ∧ s ≤ 2147483647) (hlane : -2147483648 ≤ lane ∧ lane ≤ 2147483647) (hn : -2147483648 ≤ n ∧ n ≤ 2147483647) : Cn l d z yX10_sheet cX10_sheet 5 (some .int) 2 45 0 0 [vR z 0, vI s, vI lane, vI n] N I (pI (fun r N' I' => r = aSheet s lane n ∧ N' = N ∧ Fx I' ∧ I' = kSheet I s lane n)) := by
  refine Cn.ofA [(vR z 0, false), (vI s, false), (vI lane, false), (vI n, false)] [some (vR z 0), some (vI s), some (vI lane), some (vI n), none] RX10 (by decide) rfl ⟨cR z 0, rfl, rfl, rfl, trivial⟩ (Nat.le_of_ble_eq_true rfl) rfl (fun x ed el hx hini => ?_)
  have hN := hI.nb.1
  have hF := hI.fx
  have hnb := hI.nb
  have hmy := hI.n
  have hpo := hI.po
  have hsn := hI.sn
  obtain ⟨p1, p2, p3, p4, p5, p6, p7, p8, p9, p10⟩ := hpo
  refine V_aload_0 hx dX10_sheet_0 ?_
  refine V_iload_1 hx dX10_sheet_1 ?_
  refine V_v1P hx el ed (c_X10_sheetAt hN hF (by omega)) myX10_sheetAt mlX10_288 dX10_sheet_2 ⟨_, rfl, rfl⟩ (k0 hN) (by decide) (by omega) rfl (by first | exact Nat.le_of_ble_eq_true rfl | (simp only [List.map_cons, List.map_nil, List.sum_cons, List.sum_nil, vR_cat, cat_I, cat_L]; decide)) ?_
  obtain ⟨b, hb⟩ : ∃ b : Int, b = cif (0 ≤ s ∧ s ≤ 3) (41 + 2 * s) (-1) := ⟨_, rfl⟩
  rw [← hb]
  have hbs : ((0 ≤ s ∧ s ≤ 3) ∧ b = 41 + 2 * s) ∨ (¬ (0 ≤ s ∧ s ≤ 3) ∧ b = -1) := by
    by_cases c : 0 ≤ s ∧ s ≤ 3
    · rw [cif_t c] at hb; exact Or.inl ⟨c, hb⟩
    · rw [cif_f c] at hb; exact Or.inr ⟨c, hb⟩
  refine V_astore_4 hx (by first | exact nc_I | exact nc_R | exact nc_n) dX10_sheet_5 ?_
  refine V_aload_4 hx dX10_sheet_7 ?_
  refine V_ifnull (tgt := 27) hx dX10_sheet_9 (by decide) (fun h9 => ?_) (fun h9 => ?_)
  · refine V_iconst hx dX10_sheet_27 ?_
    refine V_ireturn hx dX10_sheet_28 (by omega) (by omega) ?_
    exact ⟨_, rfl, by unfold aSheet; rw [cif_f (by omega)], rfl, hF, by unfold kSheet; rw [cif_f (by omega)]⟩
  · refine V_iload_2 hx dX10_sheet_12 ?_
    refine V_if_lt (tgt := 27) hx dX10_sheet_13 (by decide) (by omega) (fun h13 => ?_) (fun h13 => ?_)
    · refine V_iconst hx dX10_sheet_27 ?_
      refine V_ireturn hx dX10_sheet_28 (by omega) (by omega) ?_
      exact ⟨_, rfl, by unfold aSheet; rw [cif_f (by omega)], rfl, hF, by unfold kSheet; rw [cif_f (by omega)]⟩
    · refine V_iload_2 hx dX10_sheet_16 ?_
      refine V_iconst hx dX10_sheet_17 ?_
      refine V_icmp_ge (tgt := 27) hx dX10_sheet_18 (by decide) (by omega) (by omega) (fun h18 => ?_) (fun h18 => ?_)
      · refine V_iconst hx dX10_sheet_27 ?_
        refine V_ireturn hx dX10_sheet_28 (by omega) (by omega) ?_
        exact ⟨_, rfl, by unfold aSheet; rw [cif_f (by omega)], rfl, hF, by unfold kSheet; rw [cif_f (by omega)]⟩
      · refine V_iload_3 hx dX10_sheet_21 ?_
        refine V_bipush hx dX10_sheet_22 (by decide) ?_
        refine V_icmp_le (tgt := 29) hx dX10_sheet_24 (by decide) (by omega) (by omega) (fun h24 => ?_) (fun h24 => ?_)
        · refine V_iload_3 hx dX10_sheet_29 ?_
          refine V_if_ge (tgt := 36) hx dX10_sheet_30 (by decide) (by omega) (fun h30 => ?_) (fun h30 => ?_)
          · have hS : ShC I N b := by rw [show b = 41 + 2 * s by omega]; exact shC hN hF (by omega) (by omega)
            have hcs := hI.sh s (by omega) (by omega)
            have eb1 : b + 1 = 42 + 2 * s := by omega
            rw [← show b = 41 + 2 * s by omega, ← eb1] at hcs
            refine V_aload_4 hx dX10_sheet_36 ?_
            refine V_iload_2 hx dX10_sheet_38 ?_
            refine V_iload_3 hx dX10_sheet_39 ?_
            refine V_v2N hx el ed (c_X5_startAnew hF hS (by omega) (by omega)) myX5_startAnew mlX10_292 dX10_sheet_40 ⟨_, rfl, rfl⟩ hS.1 (by decide) (by omega) rfl (by first | exact Nat.le_of_ble_eq_true rfl | (simp only [List.map_cons, List.map_nil, List.sum_cons, List.sum_nil, vR_cat, cat_I, cat_L]; decide)) (fun N1 I1 ⟨eN, eI, hF⟩ => ?_)
            refine V_iload_3 hx dX10_sheet_43 ?_
            refine V_ireturn hx dX10_sheet_44 (by omega) (by omega) ?_
            exact ⟨_, rfl, by unfold aSheet; rw [cif_t (by omega), cif_f (by omega)], eN, hF, by unfold kSheet; rw [cif_t (by omega), ← eb1, ← show b = 41 + 2 * s by omega]; exact eI⟩
          · refine V_bipush hx dX10_sheet_33 (by decide) ?_
            refine V_ireturn hx dX10_sheet_35 (by omega) (by omega) ?_
            exact ⟨_, rfl, by unfold aSheet; rw [cif_t (by omega), cif_t (by omega)], rfl, hF, by unfold kSheet; rw [cif_f (by omega)]⟩
        · refine V_iconst hx dX10_sheet_27 ?_
          refine V_ireturn hx dX10_sheet_28 (by omega) (by omega) ?_
          exact ⟨_, rfl, by unfold aSheet; rw [cif_f (by omega)], rfl, hF, by unfold kSheet; rw [cif_f (by omega)]⟩

set_option maxRecDepth 8000 in
theorem c_X10_drop {l : Launch} {d : Dd} {z : Nat} {N : Int} {I : Mm} {s : Int}  (hI : Inv I N) (hs : -2147483648 ≤ s ∧ s ≤ 2147483647) : Cn l d z yX10_drop cX10_drop 3 (some .int) 1 21 0 0 [vR z 0, vI s] N I (pI (fun r N' I' => r = aDrop I s ∧ N' = N ∧ Fx I' ∧ I' = kDrop I s)) := by
  refine Cn.ofA [(vR z 0, false), (vI s, false)] [some (vR z 0), some (vI s), none] RX10 (by decide) rfl ⟨cR z 0, rfl, trivial⟩ (Nat.le_of_ble_eq_true rfl) rfl (fun x ed el hx hini => ?_)
  have hN := hI.nb.1
  have hF := hI.fx
  have hnb := hI.nb
  have hmy := hI.n
  have hpo := hI.po
  have hsn := hI.sn
  obtain ⟨p1, p2, p3, p4, p5, p6, p7, p8, p9, p10⟩ := hpo
  refine V_aload_0 hx dX10_drop_0 ?_
  refine V_iload_1 hx dX10_drop_1 ?_
  refine V_v1P hx el ed (c_X10_sheetAt hN hF (by omega)) myX10_sheetAt mlX10_288 dX10_drop_2 ⟨_, rfl, rfl⟩ (k0 hN) (by decide) (by omega) rfl (by first | exact Nat.le_of_ble_eq_true rfl | (simp only [List.map_cons, List.map_nil, List.sum_cons, List.sum_nil, vR_cat, cat_I, cat_L]; decide)) ?_
  obtain ⟨b, hb⟩ : ∃ b : Int, b = cif (0 ≤ s ∧ s ≤ 3) (41 + 2 * s) (-1) := ⟨_, rfl⟩
  rw [← hb]
  have hbs : ((0 ≤ s ∧ s ≤ 3) ∧ b = 41 + 2 * s) ∨ (¬ (0 ≤ s ∧ s ≤ 3) ∧ b = -1) := by
    by_cases c : 0 ≤ s ∧ s ≤ 3
    · rw [cif_t c] at hb; exact Or.inl ⟨c, hb⟩
    · rw [cif_f c] at hb; exact Or.inr ⟨c, hb⟩
  refine V_astore_2 hx (by first | exact nc_I | exact nc_R | exact nc_n) dX10_drop_5 ?_
  refine V_aload_2 hx dX10_drop_6 ?_
  refine V_ifnonnull (tgt := 12) hx dX10_drop_7 (by decide) (fun h7 => ?_) (fun h7 => ?_)
  · have hS : ShC I N b := by rw [show b = 41 + 2 * s by omega]; exact shC hN hF (by omega) (by omega)
    have hcs := hI.sh s (by omega) (by omega)
    have eb1 : b + 1 = 42 + 2 * s := by omega
    rw [← show b = 41 + 2 * s by omega, ← eb1] at hcs
    refine V_aload_2 hx dX10_drop_12 ?_
    refine V_v0P hx el ed (c_X5_holdsNothing hF hS) myX5_holdsNothing mlX10_296 dX10_drop_13 ⟨_, rfl, rfl⟩ hS.1 (by decide) (by omega) rfl (by first | exact Nat.le_of_ble_eq_true rfl | (simp only [List.map_cons, List.map_nil, List.sum_cons, List.sum_nil, vR_cat, cat_I, cat_L]; decide)) ?_
    refine V_ifB_eq (tgt := 24) hx dX10_drop_16 (by decide) (fun h16 => ?_) (fun h16 => ?_)
    · refine V_aload_2 hx dX10_drop_24 ?_
      refine V_v0I hx el ed (c_X5_empty hF hS) myX5_empty mlX10_299 dX10_drop_25 ⟨_, rfl, rfl⟩ hS.1 (by decide) (by omega) rfl (by first | exact Nat.le_of_ble_eq_true rfl | (simp only [List.map_cons, List.map_nil, List.sum_cons, List.sum_nil, vR_cat, cat_I, cat_L]; decide)) (fun r N1 I1 ⟨er, eI, eN, hF⟩ => ?_)
      refine V_ireturn hx dX10_drop_28 (by omega) (by omega) ?_
      first
        | exact ⟨_, rfl, by unfold aDrop; rw [cif_t (by omega), cif_f (by omega), er]; exact hcs.2.1, eN, hF, by unfold kDrop; rw [cif_t (by omega), ← show b = 41 + 2 * s by omega]; exact eI⟩
        | exact ⟨_, rfl, by unfold aDrop; rw [cif_t (by omega), cif_t (by omega)], rfl, hF, by unfold kDrop; rw [cif_f (by omega)]⟩
    · refine V_bipush hx dX10_drop_19 (by decide) ?_
      refine V_goto (tgt := 28) hx dX10_drop_21 (by decide) ?_
      refine V_ireturn hx dX10_drop_28 (by omega) (by omega) ?_
      first
        | exact ⟨_, rfl, by unfold aDrop; rw [cif_t (by omega), cif_f (by omega), er]; exact hcs.2.1, eN, hF, by unfold kDrop; rw [cif_t (by omega), ← show b = 41 + 2 * s by omega]; exact eI⟩
        | exact ⟨_, rfl, by unfold aDrop; rw [cif_t (by omega), cif_t (by omega)], rfl, hF, by unfold kDrop; rw [cif_f (by omega)]⟩
  · refine V_iconst hx dX10_drop_10 ?_
    refine V_ireturn hx dX10_drop_11 (by omega) (by omega) ?_
    exact ⟨_, rfl, by unfold aDrop; rw [cif_f (by omega)], rfl, hF, by unfold kDrop; rw [cif_f (by omega)]⟩

set_option maxRecDepth 8000 in
theorem c_X10_item {l : Launch} {d : Dd} {z : Nat} {N : Int} {I : Mm} {s lane i v : Int}  (hI : Inv I N) (hs : -2147483648 ≤ s ∧ s ≤ 2147483647) (hlane : -2147483648 ≤ lane ∧ lane ≤ 2147483647) (hi : -2147483648 ≤ i ∧ i ≤ 2147483647) (hv : -2147483648 ≤ v ∧ v ≤ 2147483647) : Cn l d z yX10_item cX10_item 6 (some .int) 2 47 0 0 [vR z 0, vI s, vI lane, vI i, vI v] N I (pI (fun r N' I' => r = aItem I s lane i ∧ N' = N ∧ Fx I' ∧ I' = kItem I s lane i v)) := by
  refine Cn.ofA [(vR z 0, false), (vI s, false), (vI lane, false), (vI i, false), (vI v, false)] [some (vR z 0), some (vI s), some (vI lane), some (vI i), some (vI v), none] RX10 (by decide) rfl ⟨cR z 0, rfl, rfl, rfl, rfl, trivial⟩ (Nat.le_of_ble_eq_true rfl) rfl (fun x ed el hx hini => ?_)
  have hN := hI.nb.1
  have hF := hI.fx
  have hnb := hI.nb
  have hmy := hI.n
  have hpo := hI.po
  have hsn := hI.sn
  obtain ⟨p1, p2, p3, p4, p5, p6, p7, p8, p9, p10⟩ := hpo
  refine V_aload_0 hx dX10_item_0 ?_
  refine V_iload_1 hx dX10_item_1 ?_
  refine V_iload_2 hx dX10_item_2 ?_
  refine V_iload_3 hx dX10_item_3 ?_
  refine V_iconst hx dX10_item_4 ?_
  refine V_v4Q hx el ed (c_X10_wrongSpan hN hF hI.sh (by omega) (by omega) (by omega) (by omega)) myX10_wrongSpan mlX10_105 dX10_item_5 ⟨_, rfl, rfl⟩ (k0 hN) (by decide) (by omega) rfl (by first | exact Nat.le_of_ble_eq_true rfl | (simp only [List.map_cons, List.map_nil, List.sum_cons, List.sum_nil, vR_cat, cat_I, cat_L]; decide)) (fun r5 => ?_)
  refine V_topI (wsF I s lane i 1) rfl ?_
  have hv := wsF_v I s lane i 1
  refine V_istore_5 hx (by first | exact nc_I | exact nc_R | exact nc_n) dX10_item_8 ?_
  refine V_iload_5 hx dX10_item_10 ?_
  refine V_if_ge (tgt := 18) hx dX10_item_12 (by decide) (by omega) (fun h12 => ?_) (fun h12 => ?_)
  · have hS : ShC I N (41 + 2 * s) := shC hN hF (by omega) (by omega)
    have hin := wr_in hI.sh (s := s) (lane := lane) (i := i) (n := 1) (by omega) (by omega)
    have hw1 := wrF_1.1.mp (show wrF I s lane i 1 = 1 by omega)
    have hcs := hI.sh s (by omega) (by omega)
    have eln : I (41 + 2 * s) 1 = lane := by omega
    refine V_aload_0 hx dX10_item_18 ?_
    refine V_getRe hx flX10_17 dX10_item_19 rfl (k0 hN) (hF.1 0 1 2 rfl) ?_
    refine V_iload_1 hx dX10_item_22 ?_
    refine V_aaload hx dX10_item_23 (k2 hN) (by unfold refK; omega) (by decide) (by omega) ?_
    rw [shee_at hF (by omega) (by omega)]
    refine V_iload_3 hx dX10_item_24 ?_
    refine V_iload_4 hx dX10_item_25 ?_
    refine V_v2N hx el ed (c_X5_put hF hS (by omega) (by omega)) myX5_put mlX10_302 dX10_item_27 ⟨_, rfl, rfl⟩ hS.1 (by decide) (by omega) rfl (by first | exact Nat.le_of_ble_eq_true rfl | (simp only [List.map_cons, List.map_nil, List.sum_cons, List.sum_nil, vR_cat, cat_I, cat_L]; decide)) (fun N1 I1 ⟨eN, eI, hF⟩ => ?_)
    refine V_iconst hx dX10_item_30 ?_
    refine V_ireturn hx dX10_item_31 (by omega) (by omega) ?_
    exact ⟨_, rfl, by unfold aItem; rw [cif_t (by omega), cif_t (by omega)]; omega, eN, hF, by unfold kItem; rw [cif_t (by omega), eI, eln, show 41 + 2 * s + 1 = 42 + 2 * s by omega]⟩
  · refine V_iload_5 hx dX10_item_15 ?_
    refine V_ireturn hx dX10_item_17 (by omega) (by omega) ?_
    exact ⟨_, rfl, by unfold aItem; by_cases c1 : 0 ≤ s ∧ s ≤ 3; (rw [cif_t c1]; by_cases c2 : 0 ≤ lane ∧ lane ≤ 2; (rw [cif_t c2]; omega); (rw [cif_f c2]; omega)); (rw [cif_f c1]; omega), rfl, hF, by unfold kItem; rw [cif_f (by omega)]⟩

set_option maxRecDepth 8000 in
theorem c_X10_copy {l : Launch} {d : Dd} {z : Nat} {N : Int} {I : Mm} {f i0 t j n : Int}  (hI : Inv I N) (hf : -2147483648 ≤ f ∧ f ≤ 2147483647) (hi0 : -2147483648 ≤ i0 ∧ i0 ≤ 2147483647) (ht : -2147483648 ≤ t ∧ t ≤ 2147483647) (hj : -2147483648 ≤ j ∧ j ≤ 2147483647) (hn : -2147483648 ≤ n ∧ n ≤ 2147483647) : Cn l d z yX10_copy cX10_copy 8 (some .int) 1 24 0 0 [vR z 0, vI f, vI i0, vI t, vI j, vI n] N I (pI (fun r N' I' => r = aCopy I f i0 t j n ∧ N' = N ∧ Fx I' ∧ I' = kCopy I f i0 t j n)) := by
  refine Cn.ofA [(vR z 0, false), (vI f, false), (vI i0, false), (vI t, false), (vI j, false), (vI n, false)] [some (vR z 0), some (vI f), some (vI i0), some (vI t), some (vI j), some (vI n), none, none] RX10 (by decide) rfl ⟨cR z 0, rfl, rfl, rfl, rfl, rfl, trivial⟩ (Nat.le_of_ble_eq_true rfl) rfl (fun x ed el hx hini => ?_)
  have hN := hI.nb.1
  have hF := hI.fx
  have hnb := hI.nb
  have hmy := hI.n
  have hpo := hI.po
  have hsn := hI.sn
  obtain ⟨p1, p2, p3, p4, p5, p6, p7, p8, p9, p10⟩ := hpo
  refine V_aload_0 hx dX10_copy_0 ?_
  refine V_iload_1 hx dX10_copy_1 ?_
  refine V_v1P hx el ed (c_X10_sheetAt hN hF (by omega)) myX10_sheetAt mlX10_288 dX10_copy_2 ⟨_, rfl, rfl⟩ (k0 hN) (by decide) (by omega) rfl (by first | exact Nat.le_of_ble_eq_true rfl | (simp only [List.map_cons, List.map_nil, List.sum_cons, List.sum_nil, vR_cat, cat_I, cat_L]; decide)) ?_
  obtain ⟨b, hb⟩ : ∃ b : Int, b = cif (0 ≤ f ∧ f ≤ 3) (41 + 2 * f) (-1) := ⟨_, rfl⟩
  rw [← hb]
  have hbs : ((0 ≤ f ∧ f ≤ 3) ∧ b = 41 + 2 * f) ∨ (¬ (0 ≤ f ∧ f ≤ 3) ∧ b = -1) := by
    by_cases c : 0 ≤ f ∧ f ≤ 3
    · rw [cif_t c] at hb; exact Or.inl ⟨c, hb⟩
    · rw [cif_f c] at hb; exact Or.inr ⟨c, hb⟩
  refine V_astore_6 hx (by first | exact nc_I | exact nc_R | exact nc_n) dX10_copy_5 ?_
  refine V_aload_0 hx dX10_copy_7 ?_
  refine V_iload_3 hx dX10_copy_8 ?_
  refine V_v1P hx el ed (c_X10_sheetAt hN hF (by omega)) myX10_sheetAt mlX10_288 dX10_copy_9 ⟨_, rfl, rfl⟩ (k0 hN) (by decide) (by omega) rfl (by first | exact Nat.le_of_ble_eq_true rfl | (simp only [List.map_cons, List.map_nil, List.sum_cons, List.sum_nil, vR_cat, cat_I, cat_L]; decide)) ?_
  obtain ⟨c, hc⟩ : ∃ b : Int, b = cif (0 ≤ t ∧ t ≤ 3) (41 + 2 * t) (-1) := ⟨_, rfl⟩
  rw [← hc]
  have hcs : ((0 ≤ t ∧ t ≤ 3) ∧ c = 41 + 2 * t) ∨ (¬ (0 ≤ t ∧ t ≤ 3) ∧ c = -1) := by
    by_cases c : 0 ≤ t ∧ t ≤ 3
    · rw [cif_t c] at hc; exact Or.inl ⟨c, hc⟩
    · rw [cif_f c] at hc; exact Or.inr ⟨c, hc⟩
  refine V_astore_7 hx (by first | exact nc_I | exact nc_R | exact nc_n) dX10_copy_12 ?_
  refine V_aload_6 hx dX10_copy_14 ?_
  refine V_ifnull (tgt := 24) hx dX10_copy_16 (by decide) (fun h16 => ?_) (fun h16 => ?_)
  · refine V_iconst hx dX10_copy_24 ?_
    refine V_ireturn hx dX10_copy_25 (by omega) (by omega) ?_
    exact ⟨_, rfl, by unfold aCopy; rw [cif_f (by omega)], rfl, hF, by unfold kCopy; rw [cif_f (by unfold okCopy; omega)]⟩
  · refine V_aload_7 hx dX10_copy_19 ?_
    refine V_ifnonnull (tgt := 26) hx dX10_copy_21 (by decide) (fun h21 => ?_) (fun h21 => ?_)
    · have hS : ShC I N b := by rw [show b = 41 + 2 * f by omega]; exact shC hN hF (by omega) (by omega)
      have hcs := hI.sh f (by omega) (by omega)
      have eb1 : b + 1 = 42 + 2 * f := by omega
      rw [← show b = 41 + 2 * f by omega, ← eb1] at hcs
      have hS2 : ShC I N c := by rw [show c = 41 + 2 * t by omega]; exact shC hN hF (by omega) (by omega)
      have hct := hI.sh t (by omega) (by omega)
      have ec1 : c + 1 = 42 + 2 * t := by omega
      rw [← show c = 41 + 2 * t by omega, ← ec1] at hct
      refine V_aload_6 hx dX10_copy_26 ?_
      refine V_v0P hx el ed (c_X5_holdsNothing hF hS) myX5_holdsNothing mlX10_296 dX10_copy_28 ⟨_, rfl, rfl⟩ hS.1 (by decide) (by omega) rfl (by first | exact Nat.le_of_ble_eq_true rfl | (simp only [List.map_cons, List.map_nil, List.sum_cons, List.sum_nil, vR_cat, cat_I, cat_L]; decide)) ?_
      refine V_ifB_ne (tgt := 42) hx dX10_copy_31 (by decide) (fun h31 => ?_) (fun h31 => ?_)
      · refine V_bipush hx dX10_copy_42 (by decide) ?_
        refine V_ireturn hx dX10_copy_44 (by omega) (by omega) ?_
        exact ⟨_, rfl, by unfold aCopy; rw [cif_t (by omega), cif_t (by omega)], rfl, hF, by unfold kCopy; rw [cif_f (by unfold okCopy; omega)]⟩
      · refine V_aload_7 hx dX10_copy_34 ?_
        refine V_v0P hx el ed (c_X5_holdsNothing hF hS2) myX5_holdsNothing mlX10_296 dX10_copy_36 ⟨_, rfl, rfl⟩ hS2.1 (by decide) (by omega) rfl (by first | exact Nat.le_of_ble_eq_true rfl | (simp only [List.map_cons, List.map_nil, List.sum_cons, List.sum_nil, vR_cat, cat_I, cat_L]; decide)) ?_
        refine V_ifB_eq (tgt := 45) hx dX10_copy_39 (by decide) (fun h39 => ?_) (fun h39 => ?_)
        · refine V_aload_6 hx dX10_copy_45 ?_
          refine V_getIx 1 hx hF flX10_305 dX10_copy_47 rfl rfl hS.1 (fun r47 => ?_)
          refine V_aload_7 hx dX10_copy_50 ?_
          refine V_getIx 1 hx hF flX10_305 dX10_copy_52 rfl rfl hS2.1 (fun r52 => ?_)
          refine V_icmp_eq (tgt := 61) hx dX10_copy_55 (by decide) (by omega) (by omega) (fun h55 => ?_) (fun h55 => ?_)
          · refine V_aload_6 hx dX10_copy_61 ?_
            refine V_iload_2 hx dX10_copy_63 ?_
            refine V_iload_5 hx dX10_copy_64 ?_
            refine V_v2P hx el ed (c_X5_hasSpan hF hS (by omega) (by omega) (by omega)) myX5_hasSpan mlX10_308 dX10_copy_66 ⟨_, rfl, rfl⟩ hS.1 (by decide) (by omega) rfl (by first | exact Nat.le_of_ble_eq_true rfl | (simp only [List.map_cons, List.map_nil, List.sum_cons, List.sum_nil, vR_cat, cat_I, cat_L]; decide)) ?_
            refine V_ifB_eq (tgt := 84) hx dX10_copy_69 (by decide) (fun h69 => ?_) (fun h69 => ?_)
            · refine V_bipush hx dX10_copy_84 (by decide) ?_
              refine V_ireturn hx dX10_copy_86 (by omega) (by omega) ?_
              first
                | (have e1 : wrF I f (I 58 t) i0 n = (-13) := by unfold wrF; rw [cif_f (by omega), cif_f (by omega), cif_t (by omega)]
                   exact ⟨_, rfl, by unfold aCopy; rw [cif_t (by omega), cif_f (by omega), cif_f (by omega), e1], rfl, hF, by unfold kCopy; rw [cif_f (by unfold okCopy; omega)]⟩)
                | (have e1 : wrF I f (I 58 t) i0 n = 1 := by unfold wrF; rw [cif_f (by omega), cif_f (by omega), cif_f (by omega)]
                   have e2 : wrF I t (I 58 t) j n = -13 := by unfold wrF; rw [cif_f (by omega), cif_f (by omega), cif_t (by omega)]
                   exact ⟨_, rfl, by unfold aCopy; rw [cif_t (by omega), cif_f (by omega), cif_t (by omega), cif_f (by omega), e2], rfl, hF, by unfold kCopy; rw [cif_f (by unfold okCopy; omega)]⟩)
            · refine V_aload_7 hx dX10_copy_72 ?_
              refine V_iload_4 hx dX10_copy_74 ?_
              refine V_iload_5 hx dX10_copy_76 ?_
              refine V_v2P hx el ed (c_X5_hasSpan hF hS2 (by omega) (by omega) (by omega)) myX5_hasSpan mlX10_308 dX10_copy_78 ⟨_, rfl, rfl⟩ hS2.1 (by decide) (by omega) rfl (by first | exact Nat.le_of_ble_eq_true rfl | (simp only [List.map_cons, List.map_nil, List.sum_cons, List.sum_nil, vR_cat, cat_I, cat_L]; decide)) ?_
              refine V_ifB_ne (tgt := 87) hx dX10_copy_81 (by decide) (fun h81 => ?_) (fun h81 => ?_)
              · refine V_aload_6 hx dX10_copy_87 ?_
                refine V_getRe hx flX10_311 dX10_copy_89 rfl hS.1 hS.2.1 ?_
                refine V_iload_2 hx dX10_copy_92 ?_
                refine V_aload_7 hx dX10_copy_93 ?_
                refine V_getRe hx flX10_311 dX10_copy_95 rfl hS2.1 hS2.2.1 ?_
                refine V_iload_4 hx dX10_copy_98 ?_
                refine V_iload_5 hx dX10_copy_100 ?_
                refine V_copyI hx knCopy.1 knCopy.2.1 knCopy.2.2 dX10_copy_102 hS.2.2.1 hS2.2.2.1 (by decide) (by decide) (by omega) (by omega) (by omega) (by omega) (by decide) rfl ?_
                have hF2 : Fx (upR I (c + 1) (fun q => if j ≤ q ∧ q < j + n then I (b + 1) (i0 + (q - j)) else I (c + 1) q)) := Fx_upR hF hS2.2.2.2.2.2 (fun q => by by_cases c2 : j ≤ q ∧ q < j + n; (rw [if_pos c2]; exact hF.2.1 _ _); (rw [if_neg c2]; exact hF.2.1 _ _)) (by omega)
                refine V_iload_5 hx dX10_copy_105 ?_
                refine V_ireturn hx dX10_copy_107 (by omega) (by omega) ?_
                have e1 : wrF I f (I 58 t) i0 n = 1 := by unfold wrF; rw [cif_f (by omega), cif_f (by omega), cif_f (by omega)]
                have e2 : wrF I t (I 58 t) j n = 1 := by unfold wrF; rw [cif_f (by omega), cif_f (by omega), cif_f (by omega)]
                have hok : okCopy I f i0 t j n := ⟨by omega, by omega, by omega, by omega⟩
                exact ⟨_, rfl, by unfold aCopy; rw [cif_t (by omega), cif_f (by omega), cif_t (by omega), cif_t (by omega)], rfl, hF2, by unfold kCopy; rw [cif_t hok, ← eb1, ← ec1]⟩
              · refine V_bipush hx dX10_copy_84 (by decide) ?_
                refine V_ireturn hx dX10_copy_86 (by omega) (by omega) ?_
                first
                  | (have e1 : wrF I f (I 58 t) i0 n = (-13) := by unfold wrF; rw [cif_f (by omega), cif_f (by omega), cif_t (by omega)]
                     exact ⟨_, rfl, by unfold aCopy; rw [cif_t (by omega), cif_f (by omega), cif_f (by omega), e1], rfl, hF, by unfold kCopy; rw [cif_f (by unfold okCopy; omega)]⟩)
                  | (have e1 : wrF I f (I 58 t) i0 n = 1 := by unfold wrF; rw [cif_f (by omega), cif_f (by omega), cif_f (by omega)]
                     have e2 : wrF I t (I 58 t) j n = -13 := by unfold wrF; rw [cif_f (by omega), cif_f (by omega), cif_t (by omega)]
                     exact ⟨_, rfl, by unfold aCopy; rw [cif_t (by omega), cif_f (by omega), cif_t (by omega), cif_f (by omega), e2], rfl, hF, by unfold kCopy; rw [cif_f (by unfold okCopy; omega)]⟩)
          · refine V_bipush hx dX10_copy_58 (by decide) ?_
            refine V_ireturn hx dX10_copy_60 (by omega) (by omega) ?_
            have e1 : wrF I f (I 58 t) i0 n = (-12) := by unfold wrF; rw [cif_f (by omega), cif_t (by omega)]
            exact ⟨_, rfl, by unfold aCopy; rw [cif_t (by omega), cif_f (by omega), cif_f (by omega), e1], rfl, hF, by unfold kCopy; rw [cif_f (by unfold okCopy; omega)]⟩
        · refine V_bipush hx dX10_copy_42 (by decide) ?_
          refine V_ireturn hx dX10_copy_44 (by omega) (by omega) ?_
          exact ⟨_, rfl, by unfold aCopy; rw [cif_t (by omega), cif_t (by omega)], rfl, hF, by unfold kCopy; rw [cif_f (by unfold okCopy; omega)]⟩
    · refine V_iconst hx dX10_copy_24 ?_
      refine V_ireturn hx dX10_copy_25 (by omega) (by omega) ?_
      exact ⟨_, rfl, by unfold aCopy; rw [cif_f (by omega)], rfl, hF, by unfold kCopy; rw [cif_f (by unfold okCopy; omega)]⟩

set_option maxRecDepth 8000 in
theorem c_X10_type {l : Launch} {d : Dd} {z : Nat} {N : Int} {I : Mm} {w n : Int}  (hI : Inv I N) (hn : -2147483648 ≤ n ∧ n ≤ 2147483647) : Cn l d z yX10_type cX10_type 4 (some .int) 2 46 0 0 [vR z 0, vL w, vI n] N I (pI (fun r N' I' => r = aType I w n ∧ N' = N ∧ Fx I' ∧ I' = kType I w n)) := by
  refine Cn.ofA [(vR z 0, false), (vL w, true), (vI n, false)] [some (vR z 0), some (vL w), none, some (vI n)] RX10 (by decide) rfl ⟨cR z 0, rfl, rfl, trivial⟩ (Nat.le_of_ble_eq_true rfl) rfl (fun x ed el hx hini => ?_)
  have hN := hI.nb.1
  have hF := hI.fx
  have hnb := hI.nb
  have hmy := hI.n
  have hpo := hI.po
  have hsn := hI.sn
  obtain ⟨p1, p2, p3, p4, p5, p6, p7, p8, p9, p10⟩ := hpo
  have htp := hI.tpc.1
  have htq := hI.tp.1
  refine V_iload_3 hx dX10_type_0 ?_
  refine V_iconst hx dX10_type_1 ?_
  refine V_icmp_lt (tgt := 19) hx dX10_type_2 (by decide) (by omega) (by omega) (fun h2 => ?_) (fun h2 => ?_)
  · refine V_iconst hx dX10_type_19 ?_
    refine V_ireturn hx dX10_type_20 (by omega) (by omega) ?_
    exact ⟨_, rfl, by unfold aType; by_cases c : 1 ≤ n ∧ n ≤ 8; (rw [cif_t c]; first | (exfalso; omega) | rw [cif_f (by assumption)]); (rw [cif_f c]), rfl, hF, by unfold kType; rw [cif_f (by rintro ⟨q1, q2, q3⟩; first | omega | exact absurd q2 (by assumption))]⟩
  · refine V_iload_3 hx dX10_type_5 ?_
    refine V_bipush hx dX10_type_6 (by decide) ?_
    refine V_icmp_gt (tgt := 19) hx dX10_type_8 (by decide) (by omega) (by omega) (fun h8 => ?_) (fun h8 => ?_)
    · refine V_iconst hx dX10_type_19 ?_
      refine V_ireturn hx dX10_type_20 (by omega) (by omega) ?_
      exact ⟨_, rfl, by unfold aType; by_cases c : 1 ≤ n ∧ n ≤ 8; (rw [cif_t c]; first | (exfalso; omega) | rw [cif_f (by assumption)]); (rw [cif_f c]), rfl, hF, by unfold kType; rw [cif_f (by rintro ⟨q1, q2, q3⟩; first | omega | exact absurd q2 (by assumption))]⟩
    · refine V_lload_1 hx dX10_type_11 ?_
      refine V_iload_3 hx dX10_type_12 ?_
      refine V_s2P hx el ed (c_X8_canHold (by omega)) myX8_canHold mlX10_112 dX10_type_13 (by decide) (by omega) rfl (by first | exact Nat.le_of_ble_eq_true rfl | (simp only [List.map_cons, List.map_nil, List.sum_cons, List.sum_nil, vR_cat, cat_I, cat_L]; decide)) ?_
      refine V_ifB_ne (tgt := 21) hx dX10_type_16 (by decide) (fun h16 => ?_) (fun h16 => ?_)
      · refine V_aload_0 hx dX10_type_21 ?_
        refine V_getRe hx flX10_30 dX10_type_22 rfl (k0 hN) (hF.1 0 4 4 rfl) ?_
        refine V_iload_3 hx dX10_type_25 ?_
        refine V_v1P hx el ed (c_X8_hasRoomFor hN hF (by omega) (by omega)) myX8_hasRoomFor mlX10_116 dX10_type_26 ⟨_, rfl, rfl⟩ (k4 hN) (by decide) (by omega) rfl (by first | exact Nat.le_of_ble_eq_true rfl | (simp only [List.map_cons, List.map_nil, List.sum_cons, List.sum_nil, vR_cat, cat_I, cat_L]; decide)) ?_
        refine V_ifB_eq (tgt := 44) hx dX10_type_29 (by decide) (fun h29 => ?_) (fun h29 => ?_)
        · refine V_bipush hx dX10_type_44 (by decide) ?_
          refine V_ireturn hx dX10_type_46 (by omega) (by omega) ?_
          first
            | exact ⟨_, rfl, by unfold aType; rw [cif_t (by omega), cif_t (by assumption), cif_f (by omega)]; omega, eN, hF, by unfold kType; rw [cif_t ⟨by omega, by assumption, by omega⟩]; exact eI⟩
            | exact ⟨_, rfl, by unfold aType; rw [cif_t (by omega), cif_t (by assumption), cif_t (by omega)], rfl, hF, by unfold kType; rw [cif_f (by omega)]⟩
        · refine V_aload_0 hx dX10_type_32 ?_
          refine V_getRe hx flX10_30 dX10_type_33 rfl (k0 hN) (hF.1 0 4 4 rfl) ?_
          refine V_lload_1 hx dX10_type_36 ?_
          refine V_iload_3 hx dX10_type_37 ?_
          refine V_v2I hx el ed (c_X8_append hN hF (by omega) (by omega) (by assumption)) myX8_append mlX10_120 dX10_type_38 ⟨_, rfl, rfl⟩ (k4 hN) (by decide) (by omega) rfl (by first | exact Nat.le_of_ble_eq_true rfl | (simp only [List.map_cons, List.map_nil, List.sum_cons, List.sum_nil, vR_cat, cat_I, cat_L]; decide)) (fun r N1 I1 ⟨er, eI, eN, hF⟩ => ?_)
          refine V_goto (tgt := 46) hx dX10_type_41 (by decide) ?_
          refine V_ireturn hx dX10_type_46 (by omega) (by omega) ?_
          first
            | exact ⟨_, rfl, by unfold aType; rw [cif_t (by omega), cif_t (by assumption), cif_f (by omega)]; omega, eN, hF, by unfold kType; rw [cif_t ⟨by omega, by assumption, by omega⟩]; exact eI⟩
            | exact ⟨_, rfl, by unfold aType; rw [cif_t (by omega), cif_t (by assumption), cif_t (by omega)], rfl, hF, by unfold kType; rw [cif_f (by omega)]⟩
      · refine V_iconst hx dX10_type_19 ?_
        refine V_ireturn hx dX10_type_20 (by omega) (by omega) ?_
        exact ⟨_, rfl, by unfold aType; by_cases c : 1 ≤ n ∧ n ≤ 8; (rw [cif_t c]; first | (exfalso; omega) | rw [cif_f (by assumption)]); (rw [cif_f c]), rfl, hF, by unfold kType; rw [cif_f (by rintro ⟨q1, q2, q3⟩; first | omega | exact absurd q2 (by assumption))]⟩

theorem bec_at (I : Mm) (c : Int) (hc : c ≠ 6) : ∀ n : Nat, n ≤ 6 → (∀ k : Int, 0 ≤ k → k < n → fld (fun m i => up m c i (I 6 i)) I n c k = I 6 k) ∧ ∀ a k : Int, a ≠ c → fld (fun m i => up m c i (I 6 i)) I n a k = I a k
  | 0, _ => ⟨fun k a b => by omega, fun _ _ _ => rfl⟩
  | n + 1, h => by
    obtain ⟨h1, h2⟩ := bec_at I c hc n (by omega)
    have e : fld (fun m i => up m c i (I 6 i)) I (n + 1) = up (fld (fun m i => up m c i (I 6 i)) I n) c n (I 6 n) := rfl
    rw [e]
    refine ⟨fun k k0 k1 => ?_, fun a k ha => by rw [up_c ha]; exact h2 a k ha⟩
    by_cases q : k = n
    · rw [q, up_s]
    · rw [up_k q]; exact h1 k k0 (by omega)

set_option maxRecDepth 8000 in
theorem c_X10_rule {l : Launch} {d : Dd} {z : Nat} {N : Int} {I : Mm} {e : Ee} {q : Int}  (hI : Inv I N) (hE : HE d z e) (hq : -2147483648 ≤ q ∧ q ≤ 2147483647) : Cn l d z yX10_rule cX10_rule 3 (some .int) 10 231 0 0 [vR z 0, vI q] N I (pI (fun r N' I' => r = aRule I q ∧ N' = N ∧ Fx I' ∧ kRuleR I q I')) := by
  refine Cn.ofA [(vR z 0, false), (vI q, false)] [some (vR z 0), some (vI q), none] RX10 (by decide) rfl ⟨cR z 0, rfl, trivial⟩ (Nat.le_of_ble_eq_true rfl) rfl (fun x ed el hx hini => ?_)
  have hN := hI.nb.1
  have hF := hI.fx
  have hnb := hI.nb
  have hmy := hI.n
  have hpo := hI.po
  have hsn := hI.sn
  obtain ⟨p1, p2, p3, p4, p5, p6, p7, p8, p9, p10⟩ := hpo
  refine V_iload_1 hx dX10_rule_0 ?_
  refine V_if_eq (tgt := 11) hx dX10_rule_1 (by decide) (by omega) (fun h1 => ?_) (fun h1 => ?_)
  · refine V_aload_0 hx dX10_rule_11 ?_
    refine V_getRe hx flX10_30 dX10_rule_12 rfl (k0 hN) (hF.1 0 4 4 rfl) ?_
    refine V_aload_0 hx dX10_rule_15 ?_
    refine V_getRe hx flX10_34 dX10_rule_16 rfl (k0 hN) (hF.1 0 5 6 rfl) ?_
    refine V_v1I hx el ed (c_X8_readRule hN hF hE hI.tpc hI.tp.2.2) myX8_readRule mlX10_124 dX10_rule_19 ⟨_, rfl, rfl⟩ (k4 hN) (by decide) (by omega) rfl (by first | exact Nat.le_of_ble_eq_true rfl | (simp only [List.map_cons, List.map_nil, List.sum_cons, List.sum_nil, vR_cat, cat_I, cat_L]; decide)) (fun r N1 I1 ⟨eN, hF, er, hw, hwb, hfr, r0, r1⟩ => ?_)
    rw [rdC_eq hI] at er hw
    have hN : 67 ≤ N1 := by omega
    refine V_istore_2 hx (by first | exact nc_I | exact nc_R | exact nc_n) dX10_rule_22 ?_
    refine V_aload_0 hx dX10_rule_23 ?_
    refine V_getRe hx flX10_30 dX10_rule_24 rfl (k0 hN) (hF.1 0 4 4 rfl) ?_
    refine V_v0N hx el ed (c_X8_clear hN hF) myX8_clear mlX10_128 dX10_rule_27 ⟨_, rfl, rfl⟩ (k4 hN) (by decide) (by omega) rfl (by first | exact Nat.le_of_ble_eq_true rfl | (simp only [List.map_cons, List.map_nil, List.sum_cons, List.sum_nil, vR_cat, cat_I, cat_L]; decide)) (fun N2 I2 ⟨eN2, eI2, hF⟩ => ?_)
    have hN : 67 ≤ N2 := by omega
    have g : ∀ a k : Int, ¬ (a = 4 ∧ k = 1) → I2 a k = I1 a k := fun a k h => by rw [eI2, up_n (by omega)]
    have g41 : I2 4 1 = 0 := by rw [eI2, up_s]
    have hwb2 : ∀ k : Int, -600 ≤ I2 6 k ∧ I2 6 k ≤ 600 := fun k => by rw [g 6 k (by omega)]; exact hwb k
    refine V_iload_2 hx dX10_rule_30 ?_
    refine V_if_le (tgt := 56) hx dX10_rule_31 (by decide) (by omega) (fun h31 => ?_) (fun h31 => ?_)
    · refine V_iload_2 hx dX10_rule_56 ?_
      refine V_ireturn hx dX10_rule_57 (by omega) (by omega) ?_
      rcases (show (rdA I).1 ≤ 0 ∨ (0 < (rdA I).1 ∧ q = 0) ∨ (0 < (rdA I).1 ∧ q = 1) by omega) with hc | hc | hc
      · first
        | (exfalso; omega)
        | exact ⟨_, rfl, by unfold aRule; rw [cif_t (by omega)]; exact er, by omega, hF, fun h => absurd (by omega) h, fun _ => ⟨g41, fun k k0 k1 => by rw [g _ k (by omega), hfr _ k (by omega) (by omega), cif_f (by omega)], hwb2, fun a k h1 h2 h3 => by rw [g a k (by omega)]; exact hfr a k h1 (by omega)⟩⟩
      · first
        | (exfalso; omega)
        | (have hb := bec_at I2 8 (by decide) 6 (Nat.le_refl _)
           refine ⟨_, rfl, by unfold aRule; rw [cif_t (by omega)]; exact er, by omega, hF, fun h => absurd (by omega) h, fun _ => ⟨?_, fun k k0 k1 => ?_, fun k => ?_, fun a k h1 h2 h3 => ?_⟩⟩
           · rw [eI3, hb.2 4 1 (by decide)]; exact g41
           · rw [show 8 + 2 * q = 8 by omega, eI3, hb.1 k k0 (by omega), g 6 k (by omega), cif_t (by omega)]; exact hw (by omega) k k0 k1
           · rw [eI3, hb.2 6 k (by decide)]; exact hwb2 k
           · rw [eI3, hb.2 a k (by omega), g a k (by omega)]; exact hfr a k h1 (by omega))
      · first
        | (exfalso; omega)
        | (have hb := bec_at I2 10 (by decide) 6 (Nat.le_refl _)
           refine ⟨_, rfl, by unfold aRule; rw [cif_t (by omega)]; exact er, by omega, hF, fun h => absurd (by omega) h, fun _ => ⟨?_, fun k k0 k1 => ?_, fun k => ?_, fun a k h1 h2 h3 => ?_⟩⟩
           · rw [eI3, hb.2 4 1 (by decide)]; exact g41
           · rw [show 8 + 2 * q = 10 by omega, eI3, hb.1 k k0 (by omega), g 6 k (by omega), cif_t (by omega)]; exact hw (by omega) k k0 k1
           · rw [eI3, hb.2 6 k (by decide)]; exact hwb2 k
           · rw [eI3, hb.2 a k (by omega), g a k (by omega)]; exact hfr a k h1 (by omega))
    · refine V_iload_1 hx dX10_rule_34 ?_
      refine V_if_ne (tgt := 45) hx dX10_rule_35 (by decide) (by omega) (fun h35 => ?_) (fun h35 => ?_)
      · refine V_aload_0 hx dX10_rule_45 ?_
        refine V_getRe hx flX10_47 dX10_rule_46 rfl (k0 hN) (hF.1 0 7 9 rfl) ?_
        refine V_aload_0 hx dX10_rule_49 ?_
        refine V_getRe hx flX10_34 dX10_rule_50 rfl (k0 hN) (hF.1 0 5 6 rfl) ?_
        refine V_v1N hx el ed (c_X4_become9 hN hF hwb2) myX4_become mlX10_131 dX10_rule_53 ⟨_, rfl, rfl⟩ (k9 hN) (by decide) (by omega) rfl (by first | exact Nat.le_of_ble_eq_true rfl | (simp only [List.map_cons, List.map_nil, List.sum_cons, List.sum_nil, vR_cat, cat_I, cat_L]; decide)) (fun N3 I3 ⟨eN3, eI3, hF⟩ => ?_)
        refine V_iload_2 hx dX10_rule_56 ?_
        refine V_ireturn hx dX10_rule_57 (by omega) (by omega) ?_
        rcases (show (rdA I).1 ≤ 0 ∨ (0 < (rdA I).1 ∧ q = 0) ∨ (0 < (rdA I).1 ∧ q = 1) by omega) with hc | hc | hc
        · first
          | (exfalso; omega)
          | exact ⟨_, rfl, by unfold aRule; rw [cif_t (by omega)]; exact er, by omega, hF, fun h => absurd (by omega) h, fun _ => ⟨g41, fun k k0 k1 => by rw [g _ k (by omega), hfr _ k (by omega) (by omega), cif_f (by omega)], hwb2, fun a k h1 h2 h3 => by rw [g a k (by omega)]; exact hfr a k h1 (by omega)⟩⟩
        · first
          | (exfalso; omega)
          | (have hb := bec_at I2 8 (by decide) 6 (Nat.le_refl _)
             refine ⟨_, rfl, by unfold aRule; rw [cif_t (by omega)]; exact er, by omega, hF, fun h => absurd (by omega) h, fun _ => ⟨?_, fun k k0 k1 => ?_, fun k => ?_, fun a k h1 h2 h3 => ?_⟩⟩
             · rw [eI3, hb.2 4 1 (by decide)]; exact g41
             · rw [show 8 + 2 * q = 8 by omega, eI3, hb.1 k k0 (by omega), g 6 k (by omega), cif_t (by omega)]; exact hw (by omega) k k0 k1
             · rw [eI3, hb.2 6 k (by decide)]; exact hwb2 k
             · rw [eI3, hb.2 a k (by omega), g a k (by omega)]; exact hfr a k h1 (by omega))
        · first
          | (exfalso; omega)
          | (have hb := bec_at I2 10 (by decide) 6 (Nat.le_refl _)
             refine ⟨_, rfl, by unfold aRule; rw [cif_t (by omega)]; exact er, by omega, hF, fun h => absurd (by omega) h, fun _ => ⟨?_, fun k k0 k1 => ?_, fun k => ?_, fun a k h1 h2 h3 => ?_⟩⟩
             · rw [eI3, hb.2 4 1 (by decide)]; exact g41
             · rw [show 8 + 2 * q = 10 by omega, eI3, hb.1 k k0 (by omega), g 6 k (by omega), cif_t (by omega)]; exact hw (by omega) k k0 k1
             · rw [eI3, hb.2 6 k (by decide)]; exact hwb2 k
             · rw [eI3, hb.2 a k (by omega), g a k (by omega)]; exact hfr a k h1 (by omega))
      · refine V_aload_0 hx dX10_rule_38 ?_
        refine V_getRe hx flX10_43 dX10_rule_39 rfl (k0 hN) (hF.1 0 6 7 rfl) ?_
        refine V_goto (tgt := 49) hx dX10_rule_42 (by decide) ?_
        refine V_aload_0 hx dX10_rule_49 ?_
        refine V_getRe hx flX10_34 dX10_rule_50 rfl (k0 hN) (hF.1 0 5 6 rfl) ?_
        refine V_v1N hx el ed (c_X4_become7 hN hF hwb2) myX4_become mlX10_131 dX10_rule_53 ⟨_, rfl, rfl⟩ (k7 hN) (by decide) (by omega) rfl (by first | exact Nat.le_of_ble_eq_true rfl | (simp only [List.map_cons, List.map_nil, List.sum_cons, List.sum_nil, vR_cat, cat_I, cat_L]; decide)) (fun N3 I3 ⟨eN3, eI3, hF⟩ => ?_)
        refine V_iload_2 hx dX10_rule_56 ?_
        refine V_ireturn hx dX10_rule_57 (by omega) (by omega) ?_
        rcases (show (rdA I).1 ≤ 0 ∨ (0 < (rdA I).1 ∧ q = 0) ∨ (0 < (rdA I).1 ∧ q = 1) by omega) with hc | hc | hc
        · first
          | (exfalso; omega)
          | exact ⟨_, rfl, by unfold aRule; rw [cif_t (by omega)]; exact er, by omega, hF, fun h => absurd (by omega) h, fun _ => ⟨g41, fun k k0 k1 => by rw [g _ k (by omega), hfr _ k (by omega) (by omega), cif_f (by omega)], hwb2, fun a k h1 h2 h3 => by rw [g a k (by omega)]; exact hfr a k h1 (by omega)⟩⟩
        · first
          | (exfalso; omega)
          | (have hb := bec_at I2 8 (by decide) 6 (Nat.le_refl _)
             refine ⟨_, rfl, by unfold aRule; rw [cif_t (by omega)]; exact er, by omega, hF, fun h => absurd (by omega) h, fun _ => ⟨?_, fun k k0 k1 => ?_, fun k => ?_, fun a k h1 h2 h3 => ?_⟩⟩
             · rw [eI3, hb.2 4 1 (by decide)]; exact g41
             · rw [show 8 + 2 * q = 8 by omega, eI3, hb.1 k k0 (by omega), g 6 k (by omega), cif_t (by omega)]; exact hw (by omega) k k0 k1
             · rw [eI3, hb.2 6 k (by decide)]; exact hwb2 k
             · rw [eI3, hb.2 a k (by omega), g a k (by omega)]; exact hfr a k h1 (by omega))
        · first
          | (exfalso; omega)
          | (have hb := bec_at I2 10 (by decide) 6 (Nat.le_refl _)
             refine ⟨_, rfl, by unfold aRule; rw [cif_t (by omega)]; exact er, by omega, hF, fun h => absurd (by omega) h, fun _ => ⟨?_, fun k k0 k1 => ?_, fun k => ?_, fun a k h1 h2 h3 => ?_⟩⟩
             · rw [eI3, hb.2 4 1 (by decide)]; exact g41
             · rw [show 8 + 2 * q = 10 by omega, eI3, hb.1 k k0 (by omega), g 6 k (by omega), cif_t (by omega)]; exact hw (by omega) k k0 k1
             · rw [eI3, hb.2 6 k (by decide)]; exact hwb2 k
             · rw [eI3, hb.2 a k (by omega), g a k (by omega)]; exact hfr a k h1 (by omega))
  · refine V_iload_1 hx dX10_rule_4 ?_
    refine V_iconst hx dX10_rule_5 ?_
    refine V_icmp_eq (tgt := 11) hx dX10_rule_6 (by decide) (by omega) (by omega) (fun h6 => ?_) (fun h6 => ?_)
    · refine V_aload_0 hx dX10_rule_11 ?_
      refine V_getRe hx flX10_30 dX10_rule_12 rfl (k0 hN) (hF.1 0 4 4 rfl) ?_
      refine V_aload_0 hx dX10_rule_15 ?_
      refine V_getRe hx flX10_34 dX10_rule_16 rfl (k0 hN) (hF.1 0 5 6 rfl) ?_
      refine V_v1I hx el ed (c_X8_readRule hN hF hE hI.tpc hI.tp.2.2) myX8_readRule mlX10_124 dX10_rule_19 ⟨_, rfl, rfl⟩ (k4 hN) (by decide) (by omega) rfl (by first | exact Nat.le_of_ble_eq_true rfl | (simp only [List.map_cons, List.map_nil, List.sum_cons, List.sum_nil, vR_cat, cat_I, cat_L]; decide)) (fun r N1 I1 ⟨eN, hF, er, hw, hwb, hfr, r0, r1⟩ => ?_)
      rw [rdC_eq hI] at er hw
      have hN : 67 ≤ N1 := by omega
      refine V_istore_2 hx (by first | exact nc_I | exact nc_R | exact nc_n) dX10_rule_22 ?_
      refine V_aload_0 hx dX10_rule_23 ?_
      refine V_getRe hx flX10_30 dX10_rule_24 rfl (k0 hN) (hF.1 0 4 4 rfl) ?_
      refine V_v0N hx el ed (c_X8_clear hN hF) myX8_clear mlX10_128 dX10_rule_27 ⟨_, rfl, rfl⟩ (k4 hN) (by decide) (by omega) rfl (by first | exact Nat.le_of_ble_eq_true rfl | (simp only [List.map_cons, List.map_nil, List.sum_cons, List.sum_nil, vR_cat, cat_I, cat_L]; decide)) (fun N2 I2 ⟨eN2, eI2, hF⟩ => ?_)
      have hN : 67 ≤ N2 := by omega
      have g : ∀ a k : Int, ¬ (a = 4 ∧ k = 1) → I2 a k = I1 a k := fun a k h => by rw [eI2, up_n (by omega)]
      have g41 : I2 4 1 = 0 := by rw [eI2, up_s]
      have hwb2 : ∀ k : Int, -600 ≤ I2 6 k ∧ I2 6 k ≤ 600 := fun k => by rw [g 6 k (by omega)]; exact hwb k
      refine V_iload_2 hx dX10_rule_30 ?_
      refine V_if_le (tgt := 56) hx dX10_rule_31 (by decide) (by omega) (fun h31 => ?_) (fun h31 => ?_)
      · refine V_iload_2 hx dX10_rule_56 ?_
        refine V_ireturn hx dX10_rule_57 (by omega) (by omega) ?_
        rcases (show (rdA I).1 ≤ 0 ∨ (0 < (rdA I).1 ∧ q = 0) ∨ (0 < (rdA I).1 ∧ q = 1) by omega) with hc | hc | hc
        · first
          | (exfalso; omega)
          | exact ⟨_, rfl, by unfold aRule; rw [cif_t (by omega)]; exact er, by omega, hF, fun h => absurd (by omega) h, fun _ => ⟨g41, fun k k0 k1 => by rw [g _ k (by omega), hfr _ k (by omega) (by omega), cif_f (by omega)], hwb2, fun a k h1 h2 h3 => by rw [g a k (by omega)]; exact hfr a k h1 (by omega)⟩⟩
        · first
          | (exfalso; omega)
          | (have hb := bec_at I2 8 (by decide) 6 (Nat.le_refl _)
             refine ⟨_, rfl, by unfold aRule; rw [cif_t (by omega)]; exact er, by omega, hF, fun h => absurd (by omega) h, fun _ => ⟨?_, fun k k0 k1 => ?_, fun k => ?_, fun a k h1 h2 h3 => ?_⟩⟩
             · rw [eI3, hb.2 4 1 (by decide)]; exact g41
             · rw [show 8 + 2 * q = 8 by omega, eI3, hb.1 k k0 (by omega), g 6 k (by omega), cif_t (by omega)]; exact hw (by omega) k k0 k1
             · rw [eI3, hb.2 6 k (by decide)]; exact hwb2 k
             · rw [eI3, hb.2 a k (by omega), g a k (by omega)]; exact hfr a k h1 (by omega))
        · first
          | (exfalso; omega)
          | (have hb := bec_at I2 10 (by decide) 6 (Nat.le_refl _)
             refine ⟨_, rfl, by unfold aRule; rw [cif_t (by omega)]; exact er, by omega, hF, fun h => absurd (by omega) h, fun _ => ⟨?_, fun k k0 k1 => ?_, fun k => ?_, fun a k h1 h2 h3 => ?_⟩⟩
             · rw [eI3, hb.2 4 1 (by decide)]; exact g41
             · rw [show 8 + 2 * q = 10 by omega, eI3, hb.1 k k0 (by omega), g 6 k (by omega), cif_t (by omega)]; exact hw (by omega) k k0 k1
             · rw [eI3, hb.2 6 k (by decide)]; exact hwb2 k
             · rw [eI3, hb.2 a k (by omega), g a k (by omega)]; exact hfr a k h1 (by omega))
      · refine V_iload_1 hx dX10_rule_34 ?_
        refine V_if_ne (tgt := 45) hx dX10_rule_35 (by decide) (by omega) (fun h35 => ?_) (fun h35 => ?_)
        · refine V_aload_0 hx dX10_rule_45 ?_
          refine V_getRe hx flX10_47 dX10_rule_46 rfl (k0 hN) (hF.1 0 7 9 rfl) ?_
          refine V_aload_0 hx dX10_rule_49 ?_
          refine V_getRe hx flX10_34 dX10_rule_50 rfl (k0 hN) (hF.1 0 5 6 rfl) ?_
          refine V_v1N hx el ed (c_X4_become9 hN hF hwb2) myX4_become mlX10_131 dX10_rule_53 ⟨_, rfl, rfl⟩ (k9 hN) (by decide) (by omega) rfl (by first | exact Nat.le_of_ble_eq_true rfl | (simp only [List.map_cons, List.map_nil, List.sum_cons, List.sum_nil, vR_cat, cat_I, cat_L]; decide)) (fun N3 I3 ⟨eN3, eI3, hF⟩ => ?_)
          refine V_iload_2 hx dX10_rule_56 ?_
          refine V_ireturn hx dX10_rule_57 (by omega) (by omega) ?_
          rcases (show (rdA I).1 ≤ 0 ∨ (0 < (rdA I).1 ∧ q = 0) ∨ (0 < (rdA I).1 ∧ q = 1) by omega) with hc | hc | hc
          · first
            | (exfalso; omega)
            | exact ⟨_, rfl, by unfold aRule; rw [cif_t (by omega)]; exact er, by omega, hF, fun h => absurd (by omega) h, fun _ => ⟨g41, fun k k0 k1 => by rw [g _ k (by omega), hfr _ k (by omega) (by omega), cif_f (by omega)], hwb2, fun a k h1 h2 h3 => by rw [g a k (by omega)]; exact hfr a k h1 (by omega)⟩⟩
          · first
            | (exfalso; omega)
            | (have hb := bec_at I2 8 (by decide) 6 (Nat.le_refl _)
               refine ⟨_, rfl, by unfold aRule; rw [cif_t (by omega)]; exact er, by omega, hF, fun h => absurd (by omega) h, fun _ => ⟨?_, fun k k0 k1 => ?_, fun k => ?_, fun a k h1 h2 h3 => ?_⟩⟩
               · rw [eI3, hb.2 4 1 (by decide)]; exact g41
               · rw [show 8 + 2 * q = 8 by omega, eI3, hb.1 k k0 (by omega), g 6 k (by omega), cif_t (by omega)]; exact hw (by omega) k k0 k1
               · rw [eI3, hb.2 6 k (by decide)]; exact hwb2 k
               · rw [eI3, hb.2 a k (by omega), g a k (by omega)]; exact hfr a k h1 (by omega))
          · first
            | (exfalso; omega)
            | (have hb := bec_at I2 10 (by decide) 6 (Nat.le_refl _)
               refine ⟨_, rfl, by unfold aRule; rw [cif_t (by omega)]; exact er, by omega, hF, fun h => absurd (by omega) h, fun _ => ⟨?_, fun k k0 k1 => ?_, fun k => ?_, fun a k h1 h2 h3 => ?_⟩⟩
               · rw [eI3, hb.2 4 1 (by decide)]; exact g41
               · rw [show 8 + 2 * q = 10 by omega, eI3, hb.1 k k0 (by omega), g 6 k (by omega), cif_t (by omega)]; exact hw (by omega) k k0 k1
               · rw [eI3, hb.2 6 k (by decide)]; exact hwb2 k
               · rw [eI3, hb.2 a k (by omega), g a k (by omega)]; exact hfr a k h1 (by omega))
        · refine V_aload_0 hx dX10_rule_38 ?_
          refine V_getRe hx flX10_43 dX10_rule_39 rfl (k0 hN) (hF.1 0 6 7 rfl) ?_
          refine V_goto (tgt := 49) hx dX10_rule_42 (by decide) ?_
          refine V_aload_0 hx dX10_rule_49 ?_
          refine V_getRe hx flX10_34 dX10_rule_50 rfl (k0 hN) (hF.1 0 5 6 rfl) ?_
          refine V_v1N hx el ed (c_X4_become7 hN hF hwb2) myX4_become mlX10_131 dX10_rule_53 ⟨_, rfl, rfl⟩ (k7 hN) (by decide) (by omega) rfl (by first | exact Nat.le_of_ble_eq_true rfl | (simp only [List.map_cons, List.map_nil, List.sum_cons, List.sum_nil, vR_cat, cat_I, cat_L]; decide)) (fun N3 I3 ⟨eN3, eI3, hF⟩ => ?_)
          refine V_iload_2 hx dX10_rule_56 ?_
          refine V_ireturn hx dX10_rule_57 (by omega) (by omega) ?_
          rcases (show (rdA I).1 ≤ 0 ∨ (0 < (rdA I).1 ∧ q = 0) ∨ (0 < (rdA I).1 ∧ q = 1) by omega) with hc | hc | hc
          · first
            | (exfalso; omega)
            | exact ⟨_, rfl, by unfold aRule; rw [cif_t (by omega)]; exact er, by omega, hF, fun h => absurd (by omega) h, fun _ => ⟨g41, fun k k0 k1 => by rw [g _ k (by omega), hfr _ k (by omega) (by omega), cif_f (by omega)], hwb2, fun a k h1 h2 h3 => by rw [g a k (by omega)]; exact hfr a k h1 (by omega)⟩⟩
          · first
            | (exfalso; omega)
            | (have hb := bec_at I2 8 (by decide) 6 (Nat.le_refl _)
               refine ⟨_, rfl, by unfold aRule; rw [cif_t (by omega)]; exact er, by omega, hF, fun h => absurd (by omega) h, fun _ => ⟨?_, fun k k0 k1 => ?_, fun k => ?_, fun a k h1 h2 h3 => ?_⟩⟩
               · rw [eI3, hb.2 4 1 (by decide)]; exact g41
               · rw [show 8 + 2 * q = 8 by omega, eI3, hb.1 k k0 (by omega), g 6 k (by omega), cif_t (by omega)]; exact hw (by omega) k k0 k1
               · rw [eI3, hb.2 6 k (by decide)]; exact hwb2 k
               · rw [eI3, hb.2 a k (by omega), g a k (by omega)]; exact hfr a k h1 (by omega))
          · first
            | (exfalso; omega)
            | (have hb := bec_at I2 10 (by decide) 6 (Nat.le_refl _)
               refine ⟨_, rfl, by unfold aRule; rw [cif_t (by omega)]; exact er, by omega, hF, fun h => absurd (by omega) h, fun _ => ⟨?_, fun k k0 k1 => ?_, fun k => ?_, fun a k h1 h2 h3 => ?_⟩⟩
               · rw [eI3, hb.2 4 1 (by decide)]; exact g41
               · rw [show 8 + 2 * q = 10 by omega, eI3, hb.1 k k0 (by omega), g 6 k (by omega), cif_t (by omega)]; exact hw (by omega) k k0 k1
               · rw [eI3, hb.2 6 k (by decide)]; exact hwb2 k
               · rw [eI3, hb.2 a k (by omega), g a k (by omega)]; exact hfr a k h1 (by omega))
    · refine V_iconst hx dX10_rule_9 ?_
      refine V_ireturn hx dX10_rule_10 (by omega) (by omega) ?_
      exact ⟨_, rfl, by unfold aRule; rw [cif_f (by omega)], rfl, hF, fun _ => rfl, fun h => by omega⟩

