set_option maxRecDepth 8000 in
theorem c_X10_told {l : Launch} {d : Dd} {z : Nat} {N : Int} {I : Mm} {w k : Int}  (hI : Inv I N) (hw : -2147483648 ≤ w ∧ w ≤ 2147483647) (hk : -2147483648 ≤ k ∧ k ≤ 2147483647) : Cn l d z yX10_told cX10_told 4 (some .int) 1 21 0 0 [vR z 0, vI w, vI k] N I (pv (vI (aTold I w k)) N I) := by
  refine Cn.ofA [(vR z 0, false), (vI w, false), (vI k, false)] [some (vR z 0), some (vI w), some (vI k), none] RX10 (by decide) rfl ⟨cR z 0, rfl, rfl, trivial⟩ (Nat.le_of_ble_eq_true rfl) rfl (fun x ed el hx hini => ?_)
  have hN := hI.nb.1
  have hF := hI.fx
  have hnb := hI.nb
  have hmy := hI.n
  have hpo := hI.po
  have hsn := hI.sn
  obtain ⟨p1, p2, p3, p4, p5, p6, p7, p8, p9, p10⟩ := hpo
  refine V_aload_0 hx dX10_told_0 ?_
  refine V_iload_1 hx dX10_told_1 ?_
  refine V_v1P hx el ed (c_X10_wordAt hN hF (by omega) (by omega)) myX10_wordAt mlX10_135 dX10_told_2 ⟨_, rfl, rfl⟩ (k0 hN) (by decide) (by omega) rfl (by first | exact Nat.le_of_ble_eq_true rfl | (simp only [List.map_cons, List.map_nil, List.sum_cons, List.sum_nil, vR_cat, cat_I, cat_L]; decide)) ?_
  obtain ⟨b, hb⟩ : ∃ b : Int, b = cif (0 ≤ w ∧ w < I 0 3) (I 3 w) (-1) := ⟨_, rfl⟩
  rw [← hb]
  have hbs : ((0 ≤ w ∧ w < I 49 6) ∧ b = 67 + w) ∨ (¬ (0 ≤ w ∧ w < I 49 6) ∧ b = -1) := by
    by_cases c : 0 ≤ w ∧ w < I 0 3
    · rw [cif_t c, (hI.wd _ c.1 (by omega)).1.1] at hb; exact Or.inl ⟨by omega, hb⟩
    · rw [cif_f c] at hb; exact Or.inr ⟨by omega, hb⟩
  refine V_astore_3 hx (by first | exact nc_I | exact nc_R | exact nc_n) dX10_told_5 ?_
  refine V_aload_3 hx dX10_told_6 ?_
  refine V_ifnonnull (tgt := 12) hx dX10_told_7 (by decide) (fun h7 => ?_) (fun h7 => ?_)
  · have hsh : shk N b (0, 9) := wdC (by omega) (by omega)
    have hwd := hI.wd w (by omega) (by omega)
    have hsw := (hI.sw w (by omega) (by omega)).2.2.2.2.2.2.2.2.2.1
    rw [← show b = 67 + w by omega] at hwd
    obtain ⟨⟨-, e0, e1, e2, e3, e4, e5, e6, e7, e8, e9, e10⟩, es, en, el2⟩ := hwd
    refine V_iload_2 hx dX10_told_12 ?_
    rcases (show k = 0 ∨ k = 1 ∨ k = 2 ∨ k = 3 ∨ k = 4 ∨ k = 5 ∨ k = 6 ∨ k = 7 ∨ k = 8 ∨ k = 9 ∨ k < 0 ∨ 9 < k by omega) with hsw | hsw | hsw | hsw | hsw | hsw | hsw | hsw | hsw | hsw | hsw
    · refine V_tblIn (tgt := 68) hx dX10_told_13 (by omega) (by omega) (by omega) (by rw [hsw]; rfl) (by decide) ?_
      refine V_aload_3 hx dX10_told_68 ?_
      refine V_getIx 10 hx hF flX10_139 dX10_told_69 rfl rfl hsh (fun r69 => ?_)
      refine V_ireturn hx dX10_told_72 (by omega) (by omega) ?_
      exact ⟨congrArg (fun v => some (vI v)) (by unfold aTold toldF; (repeat (first | rw [cif_t (by omega)] | rw [cif_f (by omega)])); all_goals omega), rfl, rfl⟩
    · refine V_tblIn (tgt := 73) hx dX10_told_13 (by omega) (by omega) (by omega) (by rw [hsw]; rfl) (by decide) ?_
      refine V_aload_3 hx dX10_told_73 ?_
      refine V_getIx 1 hx hF flX10_142 dX10_told_74 rfl rfl hsh (fun r74 => ?_)
      refine V_ireturn hx dX10_told_77 (by omega) (by omega) ?_
      exact ⟨congrArg (fun v => some (vI v)) (by unfold aTold toldF; (repeat (first | rw [cif_t (by omega)] | rw [cif_f (by omega)])); all_goals omega), rfl, rfl⟩
    · refine V_tblIn (tgt := 78) hx dX10_told_13 (by omega) (by omega) (by omega) (by rw [hsw]; rfl) (by decide) ?_
      refine V_aload_3 hx dX10_told_78 ?_
      refine V_getIx 4 hx hF flX10_145 dX10_told_79 rfl rfl hsh (fun r79 => ?_)
      refine V_ireturn hx dX10_told_82 (by omega) (by omega) ?_
      exact ⟨congrArg (fun v => some (vI v)) (by unfold aTold toldF; (repeat (first | rw [cif_t (by omega)] | rw [cif_f (by omega)])); all_goals omega), rfl, rfl⟩
    · refine V_tblIn (tgt := 83) hx dX10_told_13 (by omega) (by omega) (by omega) (by rw [hsw]; rfl) (by decide) ?_
      refine V_aload_3 hx dX10_told_83 ?_
      refine V_getIx 5 hx hF flX10_148 dX10_told_84 rfl rfl hsh (fun r84 => ?_)
      refine V_ireturn hx dX10_told_87 (by omega) (by omega) ?_
      exact ⟨congrArg (fun v => some (vI v)) (by unfold aTold toldF; (repeat (first | rw [cif_t (by omega)] | rw [cif_f (by omega)])); all_goals omega), rfl, rfl⟩
    · refine V_tblIn (tgt := 88) hx dX10_told_13 (by omega) (by omega) (by omega) (by rw [hsw]; rfl) (by decide) ?_
      refine V_aload_3 hx dX10_told_88 ?_
      refine V_getIx 8 hx hF flX10_151 dX10_told_89 rfl rfl hsh (fun r89 => ?_)
      refine V_ireturn hx dX10_told_92 (by omega) (by omega) ?_
      exact ⟨congrArg (fun v => some (vI v)) (by unfold aTold toldF; (repeat (first | rw [cif_t (by omega)] | rw [cif_f (by omega)])); all_goals omega), rfl, rfl⟩
    · refine V_tblIn (tgt := 93) hx dX10_told_13 (by omega) (by omega) (by omega) (by rw [hsw]; rfl) (by decide) ?_
      refine V_aload_3 hx dX10_told_93 ?_
      refine V_getIx 9 hx hF flX10_154 dX10_told_94 rfl rfl hsh (fun r94 => ?_)
      refine V_ireturn hx dX10_told_97 (by omega) (by omega) ?_
      exact ⟨congrArg (fun v => some (vI v)) (by unfold aTold toldF; (repeat (first | rw [cif_t (by omega)] | rw [cif_f (by omega)])); all_goals omega), rfl, rfl⟩
    · refine V_tblIn (tgt := 98) hx dX10_told_13 (by omega) (by omega) (by omega) (by rw [hsw]; rfl) (by decide) ?_
      refine V_aload_3 hx dX10_told_98 ?_
      refine V_getIx 6 hx hF flX10_157 dX10_told_99 rfl rfl hsh (fun r99 => ?_)
      refine V_ireturn hx dX10_told_102 (by omega) (by omega) ?_
      exact ⟨congrArg (fun v => some (vI v)) (by unfold aTold toldF; (repeat (first | rw [cif_t (by omega)] | rw [cif_f (by omega)])); all_goals omega), rfl, rfl⟩
    · refine V_tblIn (tgt := 103) hx dX10_told_13 (by omega) (by omega) (by omega) (by rw [hsw]; rfl) (by decide) ?_
      refine V_aload_3 hx dX10_told_103 ?_
      refine V_getIx 7 hx hF flX10_160 dX10_told_104 rfl rfl hsh (fun r104 => ?_)
      refine V_ireturn hx dX10_told_107 (by omega) (by omega) ?_
      exact ⟨congrArg (fun v => some (vI v)) (by unfold aTold toldF; (repeat (first | rw [cif_t (by omega)] | rw [cif_f (by omega)])); all_goals omega), rfl, rfl⟩
    · refine V_tblIn (tgt := 108) hx dX10_told_13 (by omega) (by omega) (by omega) (by rw [hsw]; rfl) (by decide) ?_
      refine V_aload_3 hx dX10_told_108 ?_
      refine V_v0P hx el ed (c_X9_wasSent hF hsh) myX9_wasSent mlX10_163 dX10_told_109 ⟨_, rfl, rfl⟩ hsh (by decide) (by omega) rfl (by first | exact Nat.le_of_ble_eq_true rfl | (simp only [List.map_cons, List.map_nil, List.sum_cons, List.sum_nil, vR_cat, cat_I, cat_L]; decide)) ?_
      refine V_ifB_eq (tgt := 122) hx dX10_told_112 (by decide) (fun h112 => ?_) (fun h112 => ?_)
      · refine V_bipush hx dX10_told_122 (by decide) ?_
        refine V_ireturn hx dX10_told_124 (by omega) (by omega) ?_
        exact ⟨congrArg (fun v => some (vI v)) (by unfold aTold toldF; (repeat (first | rw [cif_t (by omega)] | rw [cif_f (by omega)])); all_goals omega), rfl, rfl⟩
      · refine V_aload_3 hx dX10_told_115 ?_
        refine V_getIx 11 hx hF flX10_167 dX10_told_116 rfl rfl hsh (fun r116 => ?_)
        refine V_goto (tgt := 124) hx dX10_told_119 (by decide) ?_
        refine V_ireturn hx dX10_told_124 (by omega) (by omega) ?_
        exact ⟨congrArg (fun v => some (vI v)) (by unfold aTold toldF; (repeat (first | rw [cif_t (by omega)] | rw [cif_f (by omega)])); all_goals omega), rfl, rfl⟩
    · refine V_tblIn (tgt := 125) hx dX10_told_13 (by omega) (by omega) (by omega) (by rw [hsw]; rfl) (by decide) ?_
      refine V_aload_3 hx dX10_told_125 ?_
      refine V_getIx 2 hx hF flX10_170 dX10_told_126 rfl rfl hsh (fun r126 => ?_)
      refine V_ireturn hx dX10_told_129 (by omega) (by omega) ?_
      exact ⟨congrArg (fun v => some (vI v)) (by unfold aTold toldF; (repeat (first | rw [cif_t (by omega)] | rw [cif_f (by omega)])); all_goals omega), rfl, rfl⟩
    · refine V_tblOut (tgt := 130) hx dX10_told_13 (by omega) (by omega) (by decide) ?_
      refine V_iconst hx dX10_told_130 ?_
      refine V_ireturn hx dX10_told_131 (by omega) (by omega) ?_
      exact ⟨congrArg (fun v => some (vI v)) (by unfold aTold toldF; (repeat (first | rw [cif_t (by omega)] | rw [cif_f (by omega)])); all_goals omega), rfl, rfl⟩
  · refine V_iconst hx dX10_told_10 ?_
    refine V_ireturn hx dX10_told_11 (by omega) (by omega) ?_
    exact ⟨congrArg (fun v => some (vI v)) (by unfold aTold toldF; (repeat (first | rw [cif_t (by omega)] | rw [cif_f (by omega)])); all_goals omega), rfl, rfl⟩

set_option maxRecDepth 8000 in
theorem c_X10_rank {l : Launch} {d : Dd} {z : Nat} {N : Int} {I : Mm} {w q : Int}  (hI : Inv I N) (hw : -2147483648 ≤ w ∧ w ≤ 2147483647) (hq : -2147483648 ≤ q ∧ q ≤ 2147483647) : Cn l d z yX10_rank cX10_rank 4 (some .long) 2 45 0 0 [vR z 0, vI w, vI q] N I (pv (vL (aRank I w q)) N I) := by
  refine Cn.ofA [(vR z 0, false), (vI w, false), (vI q, false)] [some (vR z 0), some (vI w), some (vI q), none] RX10 (by decide) rfl ⟨cR z 0, rfl, rfl, trivial⟩ (Nat.le_of_ble_eq_true rfl) rfl (fun x ed el hx hini => ?_)
  have hN := hI.nb.1
  have hF := hI.fx
  have hnb := hI.nb
  have hmy := hI.n
  have hpo := hI.po
  have hsn := hI.sn
  obtain ⟨p1, p2, p3, p4, p5, p6, p7, p8, p9, p10⟩ := hpo
  refine V_aload_0 hx dX10_rank_0 ?_
  refine V_iload_1 hx dX10_rank_1 ?_
  refine V_v1P hx el ed (c_X10_wordAt hN hF (by omega) (by omega)) myX10_wordAt mlX10_135 dX10_rank_2 ⟨_, rfl, rfl⟩ (k0 hN) (by decide) (by omega) rfl (by first | exact Nat.le_of_ble_eq_true rfl | (simp only [List.map_cons, List.map_nil, List.sum_cons, List.sum_nil, vR_cat, cat_I, cat_L]; decide)) ?_
  obtain ⟨b, hb⟩ : ∃ b : Int, b = cif (0 ≤ w ∧ w < I 0 3) (I 3 w) (-1) := ⟨_, rfl⟩
  rw [← hb]
  have hbs : ((0 ≤ w ∧ w < I 49 6) ∧ b = 67 + w) ∨ (¬ (0 ≤ w ∧ w < I 49 6) ∧ b = -1) := by
    by_cases c : 0 ≤ w ∧ w < I 0 3
    · rw [cif_t c, (hI.wd _ c.1 (by omega)).1.1] at hb; exact Or.inl ⟨by omega, hb⟩
    · rw [cif_f c] at hb; exact Or.inr ⟨by omega, hb⟩
  refine V_astore_3 hx (by first | exact nc_I | exact nc_R | exact nc_n) dX10_rank_5 ?_
  refine V_aload_3 hx dX10_rank_6 ?_
  refine V_ifnull (tgt := 19) hx dX10_rank_7 (by decide) (fun h7 => ?_) (fun h7 => ?_)
  · refine V_ldc2 (v := -1099511627777) hx kcX10_173 dX10_rank_19 (by decide) ?_
    refine V_lreturn hx dX10_rank_22 (by omega) (by omega) ?_
    exact ⟨congrArg (fun v => some (vL v)) (by unfold aRank; first | rw [cif_f (by omega)] | rw [cif_t (by omega), cif_f (by omega)]), rfl, rfl⟩
  · refine V_iload_2 hx dX10_rank_10 ?_
    refine V_if_eq (tgt := 23) hx dX10_rank_11 (by decide) (by omega) (fun h11 => ?_) (fun h11 => ?_)
    · have hsh : shk N b (0, 9) := wdC (by omega) (by omega)
      have hrk := hI.rnk (w := w) (by omega) (by omega)
      rw [← show b = 67 + w by omega] at hrk
      refine V_iload_2 hx dX10_rank_23 ?_
      refine V_if_ne (tgt := 34) hx dX10_rank_24 (by decide) (by omega) (fun h24 => ?_) (fun h24 => ?_)
      · refine V_aload_0 hx dX10_rank_34 ?_
        refine V_getRe hx flX10_47 dX10_rank_35 rfl (k0 hN) (hF.1 0 7 9 rfl) ?_
        refine V_aload_3 hx dX10_rank_38 ?_
        refine V_v1K hx el ed (c_X4_rankOf9 hN hF (by assumption)) myX4_rankOf mlX10_175 dX10_rank_39 ⟨_, rfl, rfl⟩ (k9 hN) (by decide) (by omega) rfl (by first | exact Nat.le_of_ble_eq_true rfl | (simp only [List.map_cons, List.map_nil, List.sum_cons, List.sum_nil, vR_cat, cat_I, cat_L]; decide)) (fun r39 => ?_)
        refine V_lreturn hx dX10_rank_42 (by omega) (by omega) ?_
        exact ⟨congrArg (fun v => some (vL v)) (by unfold aRank; rw [cif_t (by omega), cif_t (by omega)]; first | (rw [show q = 0 by omega]; exact hrk.1) | (rw [show q = 1 by omega]; exact hrk.2)), rfl, rfl⟩
      · refine V_aload_0 hx dX10_rank_27 ?_
        refine V_getRe hx flX10_43 dX10_rank_28 rfl (k0 hN) (hF.1 0 6 7 rfl) ?_
        refine V_goto (tgt := 38) hx dX10_rank_31 (by decide) ?_
        refine V_aload_3 hx dX10_rank_38 ?_
        refine V_v1K hx el ed (c_X4_rankOf7 hN hF (by assumption)) myX4_rankOf mlX10_175 dX10_rank_39 ⟨_, rfl, rfl⟩ (k7 hN) (by decide) (by omega) rfl (by first | exact Nat.le_of_ble_eq_true rfl | (simp only [List.map_cons, List.map_nil, List.sum_cons, List.sum_nil, vR_cat, cat_I, cat_L]; decide)) (fun r39 => ?_)
        refine V_lreturn hx dX10_rank_42 (by omega) (by omega) ?_
        exact ⟨congrArg (fun v => some (vL v)) (by unfold aRank; rw [cif_t (by omega), cif_t (by omega)]; first | (rw [show q = 0 by omega]; exact hrk.1) | (rw [show q = 1 by omega]; exact hrk.2)), rfl, rfl⟩
    · refine V_iload_2 hx dX10_rank_14 ?_
      refine V_iconst hx dX10_rank_15 ?_
      refine V_icmp_eq (tgt := 23) hx dX10_rank_16 (by decide) (by omega) (by omega) (fun h16 => ?_) (fun h16 => ?_)
      · have hsh : shk N b (0, 9) := wdC (by omega) (by omega)
        have hrk := hI.rnk (w := w) (by omega) (by omega)
        rw [← show b = 67 + w by omega] at hrk
        refine V_iload_2 hx dX10_rank_23 ?_
        refine V_if_ne (tgt := 34) hx dX10_rank_24 (by decide) (by omega) (fun h24 => ?_) (fun h24 => ?_)
        · refine V_aload_0 hx dX10_rank_34 ?_
          refine V_getRe hx flX10_47 dX10_rank_35 rfl (k0 hN) (hF.1 0 7 9 rfl) ?_
          refine V_aload_3 hx dX10_rank_38 ?_
          refine V_v1K hx el ed (c_X4_rankOf9 hN hF (by assumption)) myX4_rankOf mlX10_175 dX10_rank_39 ⟨_, rfl, rfl⟩ (k9 hN) (by decide) (by omega) rfl (by first | exact Nat.le_of_ble_eq_true rfl | (simp only [List.map_cons, List.map_nil, List.sum_cons, List.sum_nil, vR_cat, cat_I, cat_L]; decide)) (fun r39 => ?_)
          refine V_lreturn hx dX10_rank_42 (by omega) (by omega) ?_
          exact ⟨congrArg (fun v => some (vL v)) (by unfold aRank; rw [cif_t (by omega), cif_t (by omega)]; first | (rw [show q = 0 by omega]; exact hrk.1) | (rw [show q = 1 by omega]; exact hrk.2)), rfl, rfl⟩
        · refine V_aload_0 hx dX10_rank_27 ?_
          refine V_getRe hx flX10_43 dX10_rank_28 rfl (k0 hN) (hF.1 0 6 7 rfl) ?_
          refine V_goto (tgt := 38) hx dX10_rank_31 (by decide) ?_
          refine V_aload_3 hx dX10_rank_38 ?_
          refine V_v1K hx el ed (c_X4_rankOf7 hN hF (by assumption)) myX4_rankOf mlX10_175 dX10_rank_39 ⟨_, rfl, rfl⟩ (k7 hN) (by decide) (by omega) rfl (by first | exact Nat.le_of_ble_eq_true rfl | (simp only [List.map_cons, List.map_nil, List.sum_cons, List.sum_nil, vR_cat, cat_I, cat_L]; decide)) (fun r39 => ?_)
          refine V_lreturn hx dX10_rank_42 (by omega) (by omega) ?_
          exact ⟨congrArg (fun v => some (vL v)) (by unfold aRank; rw [cif_t (by omega), cif_t (by omega)]; first | (rw [show q = 0 by omega]; exact hrk.1) | (rw [show q = 1 by omega]; exact hrk.2)), rfl, rfl⟩
      · refine V_ldc2 (v := -1099511627777) hx kcX10_173 dX10_rank_19 (by decide) ?_
        refine V_lreturn hx dX10_rank_22 (by omega) (by omega) ?_
        exact ⟨congrArg (fun v => some (vL v)) (by unfold aRank; first | rw [cif_f (by omega)] | rw [cif_t (by omega), cif_f (by omega)]), rfl, rfl⟩

set_option maxRecDepth 8000 in
theorem c_X10_next {l : Launch} {d : Dd} {z : Nat} {N : Int} {I : Mm}  (hI : Inv I N) : Cn l d z yX10_next cX10_next 2 (some .int) 4 96 0 0 [vR z 0] N I (pv (vI (aNext I)) N I) := by
  refine Cn.ofA [(vR z 0, false)] [some (vR z 0), none] RX10 (by decide) rfl ⟨cR z 0, trivial⟩ (Nat.le_of_ble_eq_true rfl) rfl (fun x ed el hx hini => ?_)
  have hN := hI.nb.1
  have hF := hI.fx
  have hnb := hI.nb
  have hmy := hI.n
  have hpo := hI.po
  have hsn := hI.sn
  obtain ⟨p1, p2, p3, p4, p5, p6, p7, p8, p9, p10⟩ := hpo
  refine V_aload_0 hx dX10_next_0 ?_
  refine V_getRe hx flX10_60 dX10_next_1 rfl (k0 hN) (hF.1 0 8 11 rfl) ?_
  refine V_getRe hx flX10_196 dX10_next_4 rfl (k11 hN) (hF.1 11 0 12 rfl) ?_
  refine V_aload_0 hx dX10_next_7 ?_
  refine V_getRe hx flX10_60 dX10_next_8 rfl (k0 hN) (hF.1 0 8 11 rfl) ?_
  refine V_getIx 6 hx hF flX10_186 dX10_next_11 rfl rfl (k11 hN) (fun r11 => ?_)
  refine V_v1P hx el ed (c_X6_nextWord hN hF hI.sto (by omega)) myX6_nextWord mlX10_200 dX10_next_14 ⟨_, rfl, rfl⟩ (k12 hN) (by decide) (by omega) rfl (by first | exact Nat.le_of_ble_eq_true rfl | (simp only [List.map_cons, List.map_nil, List.sum_cons, List.sum_nil, vR_cat, cat_I, cat_L]; decide)) ?_
  rw [p2]
  have hnx := nxW_eq hsn.1.1 hI.wr hI.ru hI.li.1 hI.li.2.1
  refine V_astore_1 hx (by first | exact nc_I | exact nc_R | exact nc_n) dX10_next_17 ?_
  refine V_aload_1 hx dX10_next_18 ?_
  refine V_ifnonnull (tgt := 27) hx dX10_next_19 (by decide) (fun h19 => ?_) (fun h19 => ?_)
  · have hsh : shk N (nxW I (I 49 7)) (0, 9) := wdC (by omega) (by omega)
    have e0 := (hI.wr (aNext I) (by omega) (by omega)).1
    rw [← show nxW I (I 49 7) = 67 + aNext I by omega] at e0
    refine V_aload_1 hx dX10_next_27 ?_
    refine V_getIx 0 hx hF flX10_203 dX10_next_28 rfl rfl hsh (fun r28 => ?_)
    refine V_ireturn hx dX10_next_31 (by omega) (by omega) ?_
    exact ⟨congrArg (fun v => some (vI v)) (by omega), rfl, rfl⟩
  · refine V_bipush hx dX10_next_22 (by decide) ?_
    refine V_goto (tgt := 31) hx dX10_next_24 (by decide) ?_
    refine V_ireturn hx dX10_next_31 (by omega) (by omega) ?_
    exact ⟨congrArg (fun v => some (vI v)) (by omega), rfl, rfl⟩

set_option maxRecDepth 8000 in
theorem c_X10_count {l : Launch} {d : Dd} {z : Nat} {N : Int} {I : Mm} {k : Int}  (hI : Inv I N) (hk : -2147483648 ≤ k ∧ k ≤ 2147483647) : Cn l d z yX10_count cX10_count 2 (some .int) 2 44 0 0 [vR z 0, vI k] N I (pv (vI (aCount I k)) N I) := by
  refine Cn.ofA [(vR z 0, false), (vI k, false)] [some (vR z 0), some (vI k)] RX10 (by decide) rfl ⟨cR z 0, rfl, trivial⟩ (Nat.le_of_ble_eq_true rfl) rfl (fun x ed el hx hini => ?_)
  have hN := hI.nb.1
  have hF := hI.fx
  have hnb := hI.nb
  have hmy := hI.n
  have hpo := hI.po
  have hsn := hI.sn
  obtain ⟨p1, p2, p3, p4, p5, p6, p7, p8, p9, p10⟩ := hpo
  refine V_iload_1 hx dX10_count_0 ?_
  rcases (show k = 0 ∨ k = 1 ∨ k = 2 ∨ k = 3 ∨ k = 4 ∨ k = 5 ∨ k = 6 ∨ k = 7 ∨ k < 0 ∨ 7 < k by omega) with hsw | hsw | hsw | hsw | hsw | hsw | hsw | hsw | hsw
  · refine V_tblIn (tgt := 48) hx dX10_count_1 (by omega) (by omega) (by omega) (by rw [hsw]; rfl) (by decide) ?_
    refine V_aload_0 hx dX10_count_48 ?_
    refine V_getIx 3 hx hF flX10_98 dX10_count_49 rfl rfl (k0 hN) (fun r49 => ?_)
    refine V_ireturn hx dX10_count_52 (by omega) (by omega) ?_
    refine ⟨congrArg (fun v => some (vI v)) ?_, rfl, rfl⟩
    unfold aCount
    have hl1 := hI.li.1.1
    rcases p10 with ⟨c1, c2, c3⟩ | ⟨c1, c2, c3, c4, -⟩
    · have hc1 := cntW_0 (p := fun w => I 55 (13 * w + 9) = 1) (n := (I 49 6).toNat) (fun w a b => c3 w a (by omega))
      (repeat (first | rw [cif_t (by omega)] | rw [cif_f (by omega)])); all_goals first | omega | rfl
    · have hc1 := cnt_one (p := fun w => I 55 (13 * w + 9) = 1) (n := (I 49 6).toNat) c1.1 (by omega) c3 (fun w a b => c4 w a (by omega))
      (repeat (first | rw [cif_t (by omega)] | rw [cif_f (by omega)])); all_goals first | omega | rfl
  · refine V_tblIn (tgt := 53) hx dX10_count_1 (by omega) (by omega) (by omega) (by rw [hsw]; rfl) (by decide) ?_
    refine V_aload_0 hx dX10_count_53 ?_
    refine V_getRe hx flX10_60 dX10_count_54 rfl (k0 hN) (hF.1 0 8 11 rfl) ?_
    refine V_getRe hx flX10_196 dX10_count_57 rfl (k11 hN) (hF.1 11 0 12 rfl) ?_
    refine V_getRe hx flX10_206 dX10_count_60 rfl (k12 hN) (hF.1 12 0 13 rfl) ?_
    refine V_getIx 1 hx hF flX10_210 dX10_count_63 rfl rfl (k13 hN) (fun r63 => ?_)
    refine V_ireturn hx dX10_count_66 (by omega) (by omega) ?_
    refine ⟨congrArg (fun v => some (vI v)) ?_, rfl, rfl⟩
    unfold aCount
    have hl1 := hI.li.1.1
    rcases p10 with ⟨c1, c2, c3⟩ | ⟨c1, c2, c3, c4, -⟩
    · have hc1 := cntW_0 (p := fun w => I 55 (13 * w + 9) = 1) (n := (I 49 6).toNat) (fun w a b => c3 w a (by omega))
      (repeat (first | rw [cif_t (by omega)] | rw [cif_f (by omega)])); all_goals first | omega | rfl
    · have hc1 := cnt_one (p := fun w => I 55 (13 * w + 9) = 1) (n := (I 49 6).toNat) c1.1 (by omega) c3 (fun w a b => c4 w a (by omega))
      (repeat (first | rw [cif_t (by omega)] | rw [cif_f (by omega)])); all_goals first | omega | rfl
  · refine V_tblIn (tgt := 67) hx dX10_count_1 (by omega) (by omega) (by omega) (by rw [hsw]; rfl) (by decide) ?_
    refine V_aload_0 hx dX10_count_67 ?_
    refine V_getRe hx flX10_60 dX10_count_68 rfl (k0 hN) (hF.1 0 8 11 rfl) ?_
    refine V_getRg 5 hx flX10_215 dX10_count_71 rfl rfl (k11 hN) ?_
    refine V_ifnonnull (tgt := 81) hx dX10_count_74 (by decide) (fun h74 => ?_) (fun h74 => ?_)
    · refine V_iconst hx dX10_count_81 ?_
      refine V_ireturn hx dX10_count_82 (by omega) (by omega) ?_
      refine ⟨congrArg (fun v => some (vI v)) ?_, rfl, rfl⟩
      unfold aCount
      have hl1 := hI.li.1.1
      rcases p10 with ⟨c1, c2, c3⟩ | ⟨c1, c2, c3, c4, -⟩
      · have hc1 := cntW_0 (p := fun w => I 55 (13 * w + 9) = 1) (n := (I 49 6).toNat) (fun w a b => c3 w a (by omega))
        (repeat (first | rw [cif_t (by omega)] | rw [cif_f (by omega)])); all_goals first | omega | rfl
      · have hc1 := cnt_one (p := fun w => I 55 (13 * w + 9) = 1) (n := (I 49 6).toNat) c1.1 (by omega) c3 (fun w a b => c4 w a (by omega))
        (repeat (first | rw [cif_t (by omega)] | rw [cif_f (by omega)])); all_goals first | omega | rfl
    · refine V_iconst hx dX10_count_77 ?_
      refine V_goto (tgt := 82) hx dX10_count_78 (by decide) ?_
      refine V_ireturn hx dX10_count_82 (by omega) (by omega) ?_
      refine ⟨congrArg (fun v => some (vI v)) ?_, rfl, rfl⟩
      unfold aCount
      have hl1 := hI.li.1.1
      rcases p10 with ⟨c1, c2, c3⟩ | ⟨c1, c2, c3, c4, -⟩
      · have hc1 := cntW_0 (p := fun w => I 55 (13 * w + 9) = 1) (n := (I 49 6).toNat) (fun w a b => c3 w a (by omega))
        (repeat (first | rw [cif_t (by omega)] | rw [cif_f (by omega)])); all_goals first | omega | rfl
      · have hc1 := cnt_one (p := fun w => I 55 (13 * w + 9) = 1) (n := (I 49 6).toNat) c1.1 (by omega) c3 (fun w a b => c4 w a (by omega))
        (repeat (first | rw [cif_t (by omega)] | rw [cif_f (by omega)])); all_goals first | omega | rfl
  · refine V_tblIn (tgt := 83) hx dX10_count_1 (by omega) (by omega) (by omega) (by rw [hsw]; rfl) (by decide) ?_
    refine V_aload_0 hx dX10_count_83 ?_
    refine V_getRe hx flX10_60 dX10_count_84 rfl (k0 hN) (hF.1 0 8 11 rfl) ?_
    refine V_getIx 8 hx hF flX10_219 dX10_count_87 rfl rfl (k11 hN) (fun r87 => ?_)
    refine V_ireturn hx dX10_count_90 (by omega) (by omega) ?_
    refine ⟨congrArg (fun v => some (vI v)) ?_, rfl, rfl⟩
    unfold aCount
    have hl1 := hI.li.1.1
    rcases p10 with ⟨c1, c2, c3⟩ | ⟨c1, c2, c3, c4, -⟩
    · have hc1 := cntW_0 (p := fun w => I 55 (13 * w + 9) = 1) (n := (I 49 6).toNat) (fun w a b => c3 w a (by omega))
      (repeat (first | rw [cif_t (by omega)] | rw [cif_f (by omega)])); all_goals first | omega | rfl
    · have hc1 := cnt_one (p := fun w => I 55 (13 * w + 9) = 1) (n := (I 49 6).toNat) c1.1 (by omega) c3 (fun w a b => c4 w a (by omega))
      (repeat (first | rw [cif_t (by omega)] | rw [cif_f (by omega)])); all_goals first | omega | rfl
  · refine V_tblIn (tgt := 91) hx dX10_count_1 (by omega) (by omega) (by omega) (by rw [hsw]; rfl) (by decide) ?_
    refine V_aload_0 hx dX10_count_91 ?_
    refine V_getRe hx flX10_60 dX10_count_92 rfl (k0 hN) (hF.1 0 8 11 rfl) ?_
    refine V_getIx 9 hx hF flX10_222 dX10_count_95 rfl rfl (k11 hN) (fun r95 => ?_)
    refine V_ireturn hx dX10_count_98 (by omega) (by omega) ?_
    refine ⟨congrArg (fun v => some (vI v)) ?_, rfl, rfl⟩
    unfold aCount
    have hl1 := hI.li.1.1
    rcases p10 with ⟨c1, c2, c3⟩ | ⟨c1, c2, c3, c4, -⟩
    · have hc1 := cntW_0 (p := fun w => I 55 (13 * w + 9) = 1) (n := (I 49 6).toNat) (fun w a b => c3 w a (by omega))
      (repeat (first | rw [cif_t (by omega)] | rw [cif_f (by omega)])); all_goals first | omega | rfl
    · have hc1 := cnt_one (p := fun w => I 55 (13 * w + 9) = 1) (n := (I 49 6).toNat) c1.1 (by omega) c3 (fun w a b => c4 w a (by omega))
      (repeat (first | rw [cif_t (by omega)] | rw [cif_f (by omega)])); all_goals first | omega | rfl
  · refine V_tblIn (tgt := 99) hx dX10_count_1 (by omega) (by omega) (by omega) (by rw [hsw]; rfl) (by decide) ?_
    refine V_aload_0 hx dX10_count_99 ?_
    refine V_getRe hx flX10_60 dX10_count_100 rfl (k0 hN) (hF.1 0 8 11 rfl) ?_
    refine V_getRe hx flX10_196 dX10_count_103 rfl (k11 hN) (hF.1 11 0 12 rfl) ?_
    refine V_aload_0 hx dX10_count_106 ?_
    refine V_getRe hx flX10_60 dX10_count_107 rfl (k0 hN) (hF.1 0 8 11 rfl) ?_
    refine V_getIx 6 hx hF flX10_186 dX10_count_110 rfl rfl (k11 hN) (fun r110 => ?_)
    refine V_v1Q hx el ed (c_X6_openCount hN hF hI.sto (by omega)) myX6_openCount mlX10_225 dX10_count_113 ⟨_, rfl, rfl⟩ (k12 hN) (by decide) (by omega) rfl (by first | exact Nat.le_of_ble_eq_true rfl | (simp only [List.map_cons, List.map_nil, List.sum_cons, List.sum_nil, vR_cat, cat_I, cat_L]; decide)) (fun r113 => ?_)
    rw [p2, opC_eq hsn.1.1 hI.wr hI.li.1]
    refine V_ireturn hx dX10_count_116 (by omega) (by omega) ?_
    refine ⟨congrArg (fun v => some (vI v)) ?_, rfl, rfl⟩
    unfold aCount
    have hl1 := hI.li.1.1
    rcases p10 with ⟨c1, c2, c3⟩ | ⟨c1, c2, c3, c4, -⟩
    · have hc1 := cntW_0 (p := fun w => I 55 (13 * w + 9) = 1) (n := (I 49 6).toNat) (fun w a b => c3 w a (by omega))
      (repeat (first | rw [cif_t (by omega)] | rw [cif_f (by omega)])); all_goals first | omega | rfl
    · have hc1 := cnt_one (p := fun w => I 55 (13 * w + 9) = 1) (n := (I 49 6).toNat) c1.1 (by omega) c3 (fun w a b => c4 w a (by omega))
      (repeat (first | rw [cif_t (by omega)] | rw [cif_f (by omega)])); all_goals first | omega | rfl
  · refine V_tblIn (tgt := 117) hx dX10_count_1 (by omega) (by omega) (by omega) (by rw [hsw]; rfl) (by decide) ?_
    refine V_aload_0 hx dX10_count_117 ?_
    refine V_getRe hx flX10_60 dX10_count_118 rfl (k0 hN) (hF.1 0 8 11 rfl) ?_
    refine V_getIx 6 hx hF flX10_186 dX10_count_121 rfl rfl (k11 hN) (fun r121 => ?_)
    refine V_ireturn hx dX10_count_124 (by omega) (by omega) ?_
    refine ⟨congrArg (fun v => some (vI v)) ?_, rfl, rfl⟩
    unfold aCount
    have hl1 := hI.li.1.1
    rcases p10 with ⟨c1, c2, c3⟩ | ⟨c1, c2, c3, c4, -⟩
    · have hc1 := cntW_0 (p := fun w => I 55 (13 * w + 9) = 1) (n := (I 49 6).toNat) (fun w a b => c3 w a (by omega))
      (repeat (first | rw [cif_t (by omega)] | rw [cif_f (by omega)])); all_goals first | omega | rfl
    · have hc1 := cnt_one (p := fun w => I 55 (13 * w + 9) = 1) (n := (I 49 6).toNat) c1.1 (by omega) c3 (fun w a b => c4 w a (by omega))
      (repeat (first | rw [cif_t (by omega)] | rw [cif_f (by omega)])); all_goals first | omega | rfl
  · refine V_tblIn (tgt := 125) hx dX10_count_1 (by omega) (by omega) (by omega) (by rw [hsw]; rfl) (by decide) ?_
    refine V_aload_0 hx dX10_count_125 ?_
    refine V_getRe hx flX10_60 dX10_count_126 rfl (k0 hN) (hF.1 0 8 11 rfl) ?_
    refine V_getIx 7 hx hF flX10_228 dX10_count_129 rfl rfl (k11 hN) (fun r129 => ?_)
    refine V_ireturn hx dX10_count_132 (by omega) (by omega) ?_
    refine ⟨congrArg (fun v => some (vI v)) ?_, rfl, rfl⟩
    unfold aCount
    have hl1 := hI.li.1.1
    rcases p10 with ⟨c1, c2, c3⟩ | ⟨c1, c2, c3, c4, -⟩
    · have hc1 := cntW_0 (p := fun w => I 55 (13 * w + 9) = 1) (n := (I 49 6).toNat) (fun w a b => c3 w a (by omega))
      (repeat (first | rw [cif_t (by omega)] | rw [cif_f (by omega)])); all_goals first | omega | rfl
    · have hc1 := cnt_one (p := fun w => I 55 (13 * w + 9) = 1) (n := (I 49 6).toNat) c1.1 (by omega) c3 (fun w a b => c4 w a (by omega))
      (repeat (first | rw [cif_t (by omega)] | rw [cif_f (by omega)])); all_goals first | omega | rfl
  · refine V_tblOut (tgt := 133) hx dX10_count_1 (by omega) (by omega) (by decide) ?_
    refine V_iconst hx dX10_count_133 ?_
    refine V_ireturn hx dX10_count_134 (by omega) (by omega) ?_
    refine ⟨congrArg (fun v => some (vI v)) ?_, rfl, rfl⟩
    unfold aCount
    have hl1 := hI.li.1.1
    rcases p10 with ⟨c1, c2, c3⟩ | ⟨c1, c2, c3, c4, -⟩
    · have hc1 := cntW_0 (p := fun w => I 55 (13 * w + 9) = 1) (n := (I 49 6).toNat) (fun w a b => c3 w a (by omega))
      (repeat (first | rw [cif_t (by omega)] | rw [cif_f (by omega)])); all_goals first | omega | rfl
    · have hc1 := cnt_one (p := fun w => I 55 (13 * w + 9) = 1) (n := (I 49 6).toNat) c1.1 (by omega) c3 (fun w a b => c4 w a (by omega))
      (repeat (first | rw [cif_t (by omega)] | rw [cif_f (by omega)])); all_goals first | omega | rfl

set_option maxRecDepth 8000 in
theorem c_X10_sent {l : Launch} {d : Dd} {z : Nat} {N : Int} {I : Mm} {i : Int}  (hI : Inv I N) (hi : -2147483648 ≤ i ∧ i ≤ 2147483647) : Cn l d z yX10_sent cX10_sent 3 (some .int) 1 21 0 0 [vR z 0, vI i] N I (pv (vI (aSent I i)) N I) := by
  refine Cn.ofA [(vR z 0, false), (vI i, false)] [some (vR z 0), some (vI i), none] RX10 (by decide) rfl ⟨cR z 0, rfl, trivial⟩ (Nat.le_of_ble_eq_true rfl) rfl (fun x ed el hx hini => ?_)
  have hN := hI.nb.1
  have hF := hI.fx
  have hnb := hI.nb
  have hmy := hI.n
  have hpo := hI.po
  have hsn := hI.sn
  obtain ⟨p1, p2, p3, p4, p5, p6, p7, p8, p9, p10⟩ := hpo
  refine V_iload_1 hx dX10_sent_0 ?_
  refine V_if_ge (tgt := 6) hx dX10_sent_1 (by decide) (by omega) (fun h1 => ?_) (fun h1 => ?_)
  · refine V_aload_0 hx dX10_sent_6 ?_
    refine V_getRe hx flX10_60 dX10_sent_7 rfl (k0 hN) (hF.1 0 8 11 rfl) ?_
    refine V_iload_1 hx dX10_sent_10 ?_
    refine V_v1P hx el ed (c_X3_turnAt hN hF (by omega) (by have := cntW_b (fun w => I 55 (13 * w + 9) = 1 ∨ I 55 (13 * w + 9) = 2) (I 49 6).toNat; omega)) myX3_turnAt mlX10_231 dX10_sent_11 ⟨_, rfl, rfl⟩ (k11 hN) (by decide) (by omega) rfl (by first | exact Nat.le_of_ble_eq_true rfl | (simp only [List.map_cons, List.map_nil, List.sum_cons, List.sum_nil, vR_cat, cat_I, cat_L]; decide)) ?_
    obtain ⟨b, hb⟩ : ∃ b : Int, b = cif (0 ≤ i ∧ i < I 11 2) (I 17 i) (-1) := ⟨_, rfl⟩
    rw [← hb]
    have hbs : ((0 ≤ i ∧ i < I 49 11) ∧ b = 67 + I 56 i ∧ 0 ≤ I 56 i ∧ I 56 i < I 49 6) ∨ (¬ (0 ≤ i ∧ i < I 49 11) ∧ b = -1) := by
      by_cases c : 0 ≤ i ∧ i < I 11 2
      · have ht := hI.tu i c.1 (by omega)
        rw [cif_t c, ht.2.1] at hb; exact Or.inl ⟨by omega, hb, ht.1.1, ht.1.2⟩
      · rw [cif_f c] at hb; exact Or.inr ⟨by omega, hb⟩
    refine V_astore_2 hx (by first | exact nc_I | exact nc_R | exact nc_n) dX10_sent_14 ?_
    refine V_aload_2 hx dX10_sent_15 ?_
    refine V_ifnonnull (tgt := 24) hx dX10_sent_16 (by decide) (fun h16 => ?_) (fun h16 => ?_)
    · have hsh : shk N b (0, 9) := wdC (by omega) (by omega)
      have e0 := (hI.wr (I 56 i) (by omega) (by omega)).1
      rw [← show b = 67 + I 56 i by omega] at e0
      refine V_aload_2 hx dX10_sent_24 ?_
      refine V_getIx 0 hx hF flX10_203 dX10_sent_25 rfl rfl hsh (fun r25 => ?_)
      refine V_ireturn hx dX10_sent_28 (by omega) (by omega) ?_
      exact ⟨congrArg (fun v => some (vI v)) (by unfold aSent; (repeat (first | rw [cif_t (by omega)] | rw [cif_f (by omega)])); all_goals omega), rfl, rfl⟩
    · refine V_bipush hx dX10_sent_19 (by decide) ?_
      refine V_goto (tgt := 28) hx dX10_sent_21 (by decide) ?_
      refine V_ireturn hx dX10_sent_28 (by omega) (by omega) ?_
      exact ⟨congrArg (fun v => some (vI v)) (by unfold aSent; (repeat (first | rw [cif_t (by omega)] | rw [cif_f (by omega)])); all_goals omega), rfl, rfl⟩
  · refine V_iconst hx dX10_sent_4 ?_
    refine V_ireturn hx dX10_sent_5 (by omega) (by omega) ?_
    exact ⟨congrArg (fun v => some (vI v)) (by unfold aSent; (repeat (first | rw [cif_t (by omega)] | rw [cif_f (by omega)])); all_goals omega), rfl, rfl⟩

set_option maxRecDepth 8000 in
theorem c_X10_late {l : Launch} {d : Dd} {z : Nat} {N : Int} {I : Mm} {w : Int}  (hI : Inv I N) (hw : -2147483648 ≤ w ∧ w ≤ 2147483647) : Cn l d z yX10_late cX10_late 3 (some .int) 1 21 0 0 [vR z 0, vI w] N I (pv (vI (aLate I w)) N I) := by
  refine Cn.ofA [(vR z 0, false), (vI w, false)] [some (vR z 0), some (vI w), none] RX10 (by decide) rfl ⟨cR z 0, rfl, trivial⟩ (Nat.le_of_ble_eq_true rfl) rfl (fun x ed el hx hini => ?_)
  have hN := hI.nb.1
  have hF := hI.fx
  have hnb := hI.nb
  have hmy := hI.n
  have hpo := hI.po
  have hsn := hI.sn
  obtain ⟨p1, p2, p3, p4, p5, p6, p7, p8, p9, p10⟩ := hpo
  refine V_aload_0 hx dX10_late_0 ?_
  refine V_iload_1 hx dX10_late_1 ?_
  refine V_v1P hx el ed (c_X10_wordAt hN hF (by omega) (by omega)) myX10_wordAt mlX10_135 dX10_late_2 ⟨_, rfl, rfl⟩ (k0 hN) (by decide) (by omega) rfl (by first | exact Nat.le_of_ble_eq_true rfl | (simp only [List.map_cons, List.map_nil, List.sum_cons, List.sum_nil, vR_cat, cat_I, cat_L]; decide)) ?_
  obtain ⟨b, hb⟩ : ∃ b : Int, b = cif (0 ≤ w ∧ w < I 0 3) (I 3 w) (-1) := ⟨_, rfl⟩
  rw [← hb]
  have hbs : ((0 ≤ w ∧ w < I 49 6) ∧ b = 67 + w) ∨ (¬ (0 ≤ w ∧ w < I 49 6) ∧ b = -1) := by
    by_cases c : 0 ≤ w ∧ w < I 0 3
    · rw [cif_t c, (hI.wd _ c.1 (by omega)).1.1] at hb; exact Or.inl ⟨by omega, hb⟩
    · rw [cif_f c] at hb; exact Or.inr ⟨by omega, hb⟩
  refine V_astore_2 hx (by first | exact nc_I | exact nc_R | exact nc_n) dX10_late_5 ?_
  refine V_aload_2 hx dX10_late_6 ?_
  refine V_ifnonnull (tgt := 13) hx dX10_late_7 (by decide) (fun h7 => ?_) (fun h7 => ?_)
  · have hsh : shk N b (0, 9) := wdC (by omega) (by omega)
    have hwd := hI.wd w (by omega) (by omega)
    have hsw := (hI.sw w (by omega) (by omega)).2.2.2.2.2.2.2.2.2.1
    rw [← show b = 67 + w by omega] at hwd
    obtain ⟨⟨-, e0, e1, e2, e3, e4, e5, e6, e7, e8, e9, e10⟩, es, en, el2⟩ := hwd
    refine V_aload_2 hx dX10_late_13 ?_
    refine V_getIx 10 hx hF flX10_139 dX10_late_14 rfl rfl hsh (fun r14 => ?_)
    refine V_iconst hx dX10_late_17 ?_
    refine V_icmp_ne (tgt := 37) hx dX10_late_18 (by decide) (by omega) (by omega) (fun h18 => ?_) (fun h18 => ?_)
    · refine V_ldc (v := -100004) hx kcX10_238 dX10_late_37 (by decide) ?_
      refine V_ireturn hx dX10_late_39 (by omega) (by omega) ?_
      exact ⟨congrArg (fun v => some (vI v)) (by unfold aLate; (repeat (first | rw [cif_t (by omega)] | rw [cif_f (by omega)])); all_goals omega), rfl, rfl⟩
    · refine V_aload_2 hx dX10_late_21 ?_
      refine V_aload_2 hx dX10_late_22 ?_
      refine V_getIx 11 hx hF flX10_167 dX10_late_23 rfl rfl hsh (fun r23 => ?_)
      refine V_aload_2 hx dX10_late_26 ?_
      refine V_getIx 4 hx hF flX10_145 dX10_late_27 rfl rfl hsh (fun r27 => ?_)
      refine V_iadd hx dX10_late_30 ?_
      refine V_v1P hx el ed (c_X9_lateAt hF hsh) myX9_lateAt mlX10_235 dX10_late_31 ⟨_, rfl, rfl⟩ hsh (by decide) (by omega) rfl (by first | exact Nat.le_of_ble_eq_true rfl | (simp only [List.map_cons, List.map_nil, List.sum_cons, List.sum_nil, vR_cat, cat_I, cat_L]; decide)) ?_
      refine V_goto (tgt := 39) hx dX10_late_34 (by decide) ?_
      refine V_ireturn hx dX10_late_39 (by omega) (by omega) ?_
      exact ⟨congrArg (fun v => some (vI v)) (by unfold aLate; (repeat (first | rw [cif_t (by omega)] | rw [cif_f (by omega)])); all_goals omega), rfl, rfl⟩
  · refine V_ldc (v := -100001) hx kcX10_234 dX10_late_10 (by decide) ?_
    refine V_ireturn hx dX10_late_12 (by omega) (by omega) ?_
    exact ⟨congrArg (fun v => some (vI v)) (by unfold aLate; (repeat (first | rw [cif_t (by omega)] | rw [cif_f (by omega)])); all_goals omega), rfl, rfl⟩

set_option maxRecDepth 8000 in
theorem c_X10_behind {l : Launch} {d : Dd} {z : Nat} {N : Int} {I : Mm} {w k : Int}  (hI : Inv I N) (hw : -2147483648 ≤ w ∧ w ≤ 2147483647) (hk : -2147483648 ≤ k ∧ k ≤ 2147483647) : Cn l d z yX10_behind cX10_behind 4 (some .int) 1 24 0 0 [vR z 0, vI w, vI k] N I (pI (fun r N' I' => N' = N ∧ I' = I ∧ behA I w k r)) := by
  refine Cn.ofA [(vR z 0, false), (vI w, false), (vI k, false)] [some (vR z 0), some (vI w), some (vI k), none] RX10 (by decide) rfl ⟨cR z 0, rfl, rfl, trivial⟩ (Nat.le_of_ble_eq_true rfl) rfl (fun x ed el hx hini => ?_)
  have hN := hI.nb.1
  have hF := hI.fx
  have hnb := hI.nb
  have hmy := hI.n
  have hpo := hI.po
  have hsn := hI.sn
  obtain ⟨p1, p2, p3, p4, p5, p6, p7, p8, p9, p10⟩ := hpo
  refine V_aload_0 hx dX10_behind_0 ?_
  refine V_iload_1 hx dX10_behind_1 ?_
  refine V_v1P hx el ed (c_X10_wordAt hN hF (by omega) (by omega)) myX10_wordAt mlX10_135 dX10_behind_2 ⟨_, rfl, rfl⟩ (k0 hN) (by decide) (by omega) rfl (by first | exact Nat.le_of_ble_eq_true rfl | (simp only [List.map_cons, List.map_nil, List.sum_cons, List.sum_nil, vR_cat, cat_I, cat_L]; decide)) ?_
  obtain ⟨b, hb⟩ : ∃ b : Int, b = cif (0 ≤ w ∧ w < I 0 3) (I 3 w) (-1) := ⟨_, rfl⟩
  rw [← hb]
  have hbs : ((0 ≤ w ∧ w < I 49 6) ∧ b = 67 + w) ∨ (¬ (0 ≤ w ∧ w < I 49 6) ∧ b = -1) := by
    by_cases c : 0 ≤ w ∧ w < I 0 3
    · rw [cif_t c, (hI.wd _ c.1 (by omega)).1.1] at hb; exact Or.inl ⟨by omega, hb⟩
    · rw [cif_f c] at hb; exact Or.inr ⟨by omega, hb⟩
  refine V_astore_3 hx (by first | exact nc_I | exact nc_R | exact nc_n) dX10_behind_5 ?_
  refine V_aload_3 hx dX10_behind_6 ?_
  refine V_ifnull (tgt := 15) hx dX10_behind_7 (by decide) (fun h7 => ?_) (fun h7 => ?_)
  · refine V_iconst hx dX10_behind_15 ?_
    refine V_ireturn hx dX10_behind_16 (by omega) (by omega) ?_
    exact ⟨_, rfl, rfl, rfl, fun _ => rfl, fun h1 h2 => by omega, fun h1 h2 => by omega⟩
  · refine V_iload_2 hx dX10_behind_10 ?_
    refine V_iconst hx dX10_behind_11 ?_
    refine V_icmp_ge (tgt := 17) hx dX10_behind_12 (by decide) (by omega) (by omega) (fun h12 => ?_) (fun h12 => ?_)
    · have hsh : shk N b (0, 9) := wdC (by omega) (by omega)
      have hwd := hI.wd w (by omega) (by omega)
      have hsw := (hI.sw w (by omega) (by omega)).2.2.2.2.2.2.2.2.2.1
      rw [← show b = 67 + w by omega] at hwd
      obtain ⟨⟨-, e0, e1, e2, e3, e4, e5, e6, e7, e8, e9, e10⟩, es, en, el2⟩ := hwd
      refine V_aload_3 hx dX10_behind_17 ?_
      refine V_v0P hx el ed (c_X9_wasSent hF hsh) myX9_wasSent mlX10_163 dX10_behind_18 ⟨_, rfl, rfl⟩ hsh (by decide) (by omega) rfl (by first | exact Nat.le_of_ble_eq_true rfl | (simp only [List.map_cons, List.map_nil, List.sum_cons, List.sum_nil, vR_cat, cat_I, cat_L]; decide)) ?_
      refine V_ifB_ne (tgt := 27) hx dX10_behind_21 (by decide) (fun h21 => ?_) (fun h21 => ?_)
      · have hst := es (by omega)
        have hR : ∀ i : Int, 0 ≤ i → i < I 11 2 → 67 ≤ I 17 i ∧ I 17 i < N := fun i i0 i1 => by have := hI.tu i i0 (by omega); omega
        have hcb := cntW_b (fun w => I 55 (13 * w + 9) = 1 ∨ I 55 (13 * w + 9) = 2) (I 49 6).toNat
        refine V_iload_2 hx dX10_behind_27 ?_
        refine V_iconst hx dX10_behind_28 ?_
        refine V_icmp_ne (tgt := 43) hx dX10_behind_29 (by decide) (by omega) (by omega) (fun h29 => ?_) (fun h29 => ?_)
        · refine V_aload_0 hx dX10_behind_43 ?_
          refine V_getRe hx flX10_60 dX10_behind_44 rfl (k0 hN) (hF.1 0 8 11 rfl) ?_
          refine V_aload_3 hx dX10_behind_47 ?_
          refine V_iload_2 hx dX10_behind_48 ?_
          refine V_v2I hx el ed (c_X3_overtaker hN hF hsh (by omega) hR (by omega)) myX3_overtaker mlX10_243 dX10_behind_49 ⟨_, rfl, rfl⟩ (k11 hN) (by decide) (by omega) rfl (by first | exact Nat.le_of_ble_eq_true rfl | (simp only [List.map_cons, List.map_nil, List.sum_cons, List.sum_nil, vR_cat, cat_I, cat_L]; decide)) (fun r N1 I1 ⟨eN, eI, hov⟩ => ?_)
          subst eN; subst eI
          refine V_ireturn hx dX10_behind_52 (by omega) (by omega) ?_
          first
            | exact ⟨_, rfl, rfl, rfl, beh_of hI (by omega) (by omega) (by omega) (by omega) (fun _ => by rw [show b = 67 + w by omega]) (fun h => by omega)⟩
            | exact ⟨_, rfl, rfl, rfl, beh_of hI (by omega) (by omega) (by omega) (by omega) (fun h => by omega) (fun _ => by rw [← show b = 67 + w by omega]; exact hov)⟩
        · refine V_aload_0 hx dX10_behind_32 ?_
          refine V_getRe hx flX10_60 dX10_behind_33 rfl (k0 hN) (hF.1 0 8 11 rfl) ?_
          refine V_aload_3 hx dX10_behind_36 ?_
          refine V_v1Q hx el ed (c_X3_overtakers hN hF hsh (by omega) hR) myX3_overtakers mlX10_239 dX10_behind_37 ⟨_, rfl, rfl⟩ (k11 hN) (by decide) (by omega) rfl (by first | exact Nat.le_of_ble_eq_true rfl | (simp only [List.map_cons, List.map_nil, List.sum_cons, List.sum_nil, vR_cat, cat_I, cat_L]; decide)) (fun r37 => ?_)
          refine V_goto (tgt := 52) hx dX10_behind_40 (by decide) ?_
          refine V_ireturn hx dX10_behind_52 (by omega) (by omega) ?_
          first
            | exact ⟨_, rfl, rfl, rfl, beh_of hI (by omega) (by omega) (by omega) (by omega) (fun _ => by rw [show b = 67 + w by omega]) (fun h => by omega)⟩
            | exact ⟨_, rfl, rfl, rfl, beh_of hI (by omega) (by omega) (by omega) (by omega) (fun h => by omega) (fun _ => by rw [← show b = 67 + w by omega]; exact hov)⟩
      · refine V_bipush hx dX10_behind_24 (by decide) ?_
        refine V_ireturn hx dX10_behind_26 (by omega) (by omega) ?_
        exact ⟨_, rfl, rfl, rfl, fun h1 => by omega, fun _ _ _ => rfl, fun h1 h2 h3 => by omega⟩
    · refine V_iconst hx dX10_behind_15 ?_
      refine V_ireturn hx dX10_behind_16 (by omega) (by omega) ?_
      exact ⟨_, rfl, rfl, rfl, fun _ => rfl, fun h1 h2 => by omega, fun h1 h2 => by omega⟩

