set_option maxRecDepth 8000 in
theorem c_X11_wrong {l : Launch} {d : Dd} {z : Nat} {N : Int} {I : Mm} {s lane i n : Int} (hN : 67 ≤ N) (hF : Fx I) (hs : 0 ≤ s ∧ s ≤ 3) (hlane : -2147483648 ≤ lane ∧ lane ≤ 2147483647) (hi : -2147483648 ≤ i ∧ i ≤ 2147483647) (hn : -2147483648 ≤ n ∧ n ≤ 2147483647) : Cn l d z yX11_wrong cX11_wrong 5 (some .int) 0 0 0 0 [vR z 49, vI s, vI lane, vI i, vI n] N I (pq (wrF I s lane i n) N I) := by
  refine Cn.ofA [(vR z 49, false), (vI s, false), (vI lane, false), (vI i, false), (vI n, false)] [some (vR z 49), some (vI s), some (vI lane), some (vI i), some (vI n)] RX11 (by decide) rfl ⟨cR z 49, rfl, rfl, rfl, rfl, trivial⟩ (Nat.le_of_ble_eq_true rfl) rfl (fun x ed el hx hini => ?_)
  refine V_aload_0 hx dX11_wrong_0 ?_
  refine V_getRe hx flX11_34 dX11_wrong_1 rfl (k49 hN) (hF.1 49 15 58 rfl) ?_
  refine V_iload_1 hx dX11_wrong_4 ?_
  refine V_ialoadx hx hF dX11_wrong_5 (k58 hN) (by decide) (by omega) (fun r5 => ?_)
  refine V_bipush hx dX11_wrong_6 (by decide) ?_
  refine V_icmp_ne (tgt := 16) hx dX11_wrong_8 (by decide) (by omega) (by omega) (fun h8 => ?_) (fun h8 => ?_)
  · refine V_aload_0 hx dX11_wrong_16 ?_
    refine V_getRe hx flX11_34 dX11_wrong_17 rfl (k49 hN) (hF.1 49 15 58 rfl) ?_
    refine V_iload_1 hx dX11_wrong_20 ?_
    refine V_ialoadx hx hF dX11_wrong_21 (k58 hN) (by decide) (by omega) (fun r21 => ?_)
    refine V_iload_2 hx dX11_wrong_22 ?_
    refine V_icmp_eq (tgt := 31) hx dX11_wrong_23 (by decide) (by omega) (by omega) (fun h23 => ?_) (fun h23 => ?_)
    · refine V_iload_3 hx dX11_wrong_31 ?_
      refine V_if_lt (tgt := 57) hx dX11_wrong_32 (by decide) (by omega) (fun h32 => ?_) (fun h32 => ?_)
      · refine V_bipush hx dX11_wrong_57 (by decide) ?_
        refine V_goto (tgt := 63) hx dX11_wrong_59 (by decide) ?_
        refine V_ireturn hx dX11_wrong_63 (by omega) (by omega) ?_
        exact ⟨by unfold wrF; (repeat (first | rw [cif_t (by omega)] | rw [cif_f (by omega)])); all_goals (exfalso; omega), rfl, rfl, by have := (wrF_1 (I := I) (s := s) (lane := lane) (i := i) (n := n)).2; omega⟩
      · refine V_iload_4 hx dX11_wrong_35 ?_
        refine V_if_lt (tgt := 57) hx dX11_wrong_37 (by decide) (by omega) (fun h37 => ?_) (fun h37 => ?_)
        · refine V_bipush hx dX11_wrong_57 (by decide) ?_
          refine V_goto (tgt := 63) hx dX11_wrong_59 (by decide) ?_
          refine V_ireturn hx dX11_wrong_63 (by omega) (by omega) ?_
          exact ⟨by unfold wrF; (repeat (first | rw [cif_t (by omega)] | rw [cif_f (by omega)])); all_goals (exfalso; omega), rfl, rfl, by have := (wrF_1 (I := I) (s := s) (lane := lane) (i := i) (n := n)).2; omega⟩
        · refine V_iload_3 hx dX11_wrong_40 ?_
          refine V_i2l hx dX11_wrong_41 (by omega) ?_
          refine V_iload_4 hx dX11_wrong_42 ?_
          refine V_i2l hx dX11_wrong_44 (by omega) ?_
          refine V_ladd hx dX11_wrong_45 ?_
          refine V_aload_0 hx dX11_wrong_46 ?_
          refine V_getRe hx flX11_37 dX11_wrong_47 rfl (k49 hN) (hF.1 49 16 59 rfl) ?_
          refine V_iload_1 hx dX11_wrong_50 ?_
          refine V_ialoadx hx hF dX11_wrong_51 (k59 hN) (by decide) (by omega) (fun r51 => ?_)
          refine V_i2l hx dX11_wrong_52 (by omega) ?_
          refine V_lif_le (tgt := 62) hx dX11_wrong_53 dX11_wrong_54 (by decide) (by omega) (by omega) (fun h54 => ?_) (fun h54 => ?_)
          · refine V_iconst hx dX11_wrong_62 ?_
            refine V_ireturn hx dX11_wrong_63 (by omega) (by omega) ?_
            exact ⟨by unfold wrF; (repeat (first | rw [cif_t (by omega)] | rw [cif_f (by omega)])); all_goals (exfalso; omega), rfl, rfl, by have := (wrF_1 (I := I) (s := s) (lane := lane) (i := i) (n := n)).2; omega⟩
          · refine V_bipush hx dX11_wrong_57 (by decide) ?_
            refine V_goto (tgt := 63) hx dX11_wrong_59 (by decide) ?_
            refine V_ireturn hx dX11_wrong_63 (by omega) (by omega) ?_
            exact ⟨by unfold wrF; (repeat (first | rw [cif_t (by omega)] | rw [cif_f (by omega)])); all_goals (exfalso; omega), rfl, rfl, by have := (wrF_1 (I := I) (s := s) (lane := lane) (i := i) (n := n)).2; omega⟩
    · refine V_bipush hx dX11_wrong_26 (by decide) ?_
      refine V_goto (tgt := 63) hx dX11_wrong_28 (by decide) ?_
      refine V_ireturn hx dX11_wrong_63 (by omega) (by omega) ?_
      exact ⟨by unfold wrF; (repeat (first | rw [cif_t (by omega)] | rw [cif_f (by omega)])); all_goals (exfalso; omega), rfl, rfl, by have := (wrF_1 (I := I) (s := s) (lane := lane) (i := i) (n := n)).2; omega⟩
  · refine V_bipush hx dX11_wrong_11 (by decide) ?_
    refine V_goto (tgt := 63) hx dX11_wrong_13 (by decide) ?_
    refine V_ireturn hx dX11_wrong_63 (by omega) (by omega) ?_
    exact ⟨by unfold wrF; (repeat (first | rw [cif_t (by omega)] | rw [cif_f (by omega)])); all_goals (exfalso; omega), rfl, rfl, by have := (wrF_1 (I := I) (s := s) (lane := lane) (i := i) (n := n)).2; omega⟩

set_option maxRecDepth 8000 in
theorem c_X11_itemOf {l : Launch} {d : Dd} {z : Nat} {N : Int} {I : Mm} {s i : Int} (hN : 67 ≤ N) (hF : Fx I) (hi : 0 ≤ 24 * s + i ∧ 24 * s + i < 96) : Cn l d z yX11_itemOf cX11_itemOf 3 (some .int) 0 0 0 0 [vR z 49, vI s, vI i] N I (pq (I 60 (24 * s + i)) N I) := by
  refine Cn.ofA [(vR z 49, false), (vI s, false), (vI i, false)] [some (vR z 49), some (vI s), some (vI i)] RX11 (by decide) rfl ⟨cR z 49, rfl, rfl, trivial⟩ (Nat.le_of_ble_eq_true rfl) rfl (fun x ed el hx hini => ?_)
  refine V_aload_0 hx dX11_itemOf_0 ?_
  refine V_getRe hx flX11_40 dX11_itemOf_1 rfl (k49 hN) (hF.1 49 17 60 rfl) ?_
  refine V_bipush hx dX11_itemOf_4 (by decide) ?_
  refine V_iload_1 hx dX11_itemOf_6 ?_
  refine V_imul hx dX11_itemOf_7 ?_
  refine V_iload_2 hx dX11_itemOf_8 ?_
  refine V_iadd hx dX11_itemOf_9 ?_
  refine V_ialoadx hx hF dX11_itemOf_10 (k60 hN) (by decide) (by omega) (fun r10 => ?_)
  refine V_ireturn hx dX11_itemOf_11 (by omega) (by omega) ?_
  exact ⟨by rfl, rfl, rfl, by omega⟩

set_option maxRecDepth 8000 in
theorem c_X11_toldOf {l : Launch} {d : Dd} {z : Nat} {N : Int} {I : Mm} {w k : Int} (hN : 67 ≤ N) (hF : Fx I) (hw : 0 ≤ w ∧ w ≤ 999) (hk : 0 ≤ k ∧ k ≤ 9) : Cn l d z yX11_toldOf cX11_toldOf 3 (some .int) 1 22 0 0 [vR z 49, vI w, vI k] N I (pv (vI (toldF I w k)) N I) := by
  refine Cn.ofA [(vR z 49, false), (vI w, false), (vI k, false)] [some (vR z 49), some (vI w), some (vI k)] RX11 (by decide) rfl ⟨cR z 49, rfl, rfl, trivial⟩ (Nat.le_of_ble_eq_true rfl) rfl (fun x ed el hx hini => ?_)
  refine V_iload_2 hx dX11_toldOf_0 ?_
  rcases (show k = 0 ∨ k = 1 ∨ k = 2 ∨ k = 3 ∨ k = 4 ∨ k = 5 ∨ k = 6 ∨ k = 7 ∨ k = 8 ∨ k < 0 ∨ 8 < k by omega) with hsw | hsw | hsw | hsw | hsw | hsw | hsw | hsw | hsw | hsw
  · refine V_tblIn (tgt := 52) hx dX11_toldOf_1 (by omega) (by omega) (by omega) (by rw [hsw]; rfl) (by decide) ?_
    refine V_aload_0 hx dX11_toldOf_52 ?_
    refine V_iload_1 hx dX11_toldOf_53 ?_
    refine V_bipush hx dX11_toldOf_54 (by decide) ?_
    refine V_v2Q hx el ed (c_X11_of hN hF (by omega)) myX11_of mlX11_99 dX11_toldOf_56 ⟨_, rfl, rfl⟩ (k49 hN) (by decide) (by omega) rfl (by first | exact Nat.le_of_ble_eq_true rfl | simp [vI, vL, vR_cat, Value.category]) (fun r56 => ?_)
    refine V_ireturn hx dX11_toldOf_59 (by omega) (by omega) ?_
    exact ⟨by unfold toldF; (repeat (first | rw [cif_t (by omega)] | rw [cif_f (by omega)])); all_goals (exfalso; omega), rfl, rfl⟩
  · refine V_tblIn (tgt := 60) hx dX11_toldOf_1 (by omega) (by omega) (by omega) (by rw [hsw]; rfl) (by decide) ?_
    refine V_aload_0 hx dX11_toldOf_60 ?_
    refine V_iload_1 hx dX11_toldOf_61 ?_
    refine V_bipush hx dX11_toldOf_62 (by decide) ?_
    refine V_v2Q hx el ed (c_X11_of hN hF (by omega)) myX11_of mlX11_99 dX11_toldOf_64 ⟨_, rfl, rfl⟩ (k49 hN) (by decide) (by omega) rfl (by first | exact Nat.le_of_ble_eq_true rfl | simp [vI, vL, vR_cat, Value.category]) (fun r64 => ?_)
    refine V_ireturn hx dX11_toldOf_67 (by omega) (by omega) ?_
    exact ⟨by unfold toldF; (repeat (first | rw [cif_t (by omega)] | rw [cif_f (by omega)])); all_goals (exfalso; omega), rfl, rfl⟩
  · refine V_tblIn (tgt := 68) hx dX11_toldOf_1 (by omega) (by omega) (by omega) (by rw [hsw]; rfl) (by decide) ?_
    refine V_aload_0 hx dX11_toldOf_68 ?_
    refine V_iload_1 hx dX11_toldOf_69 ?_
    refine V_iconst hx dX11_toldOf_70 ?_
    refine V_v2Q hx el ed (c_X11_of hN hF (by omega)) myX11_of mlX11_99 dX11_toldOf_71 ⟨_, rfl, rfl⟩ (k49 hN) (by decide) (by omega) rfl (by first | exact Nat.le_of_ble_eq_true rfl | simp [vI, vL, vR_cat, Value.category]) (fun r71 => ?_)
    refine V_ireturn hx dX11_toldOf_74 (by omega) (by omega) ?_
    exact ⟨by unfold toldF; (repeat (first | rw [cif_t (by omega)] | rw [cif_f (by omega)])); all_goals (exfalso; omega), rfl, rfl⟩
  · refine V_tblIn (tgt := 75) hx dX11_toldOf_1 (by omega) (by omega) (by omega) (by rw [hsw]; rfl) (by decide) ?_
    refine V_aload_0 hx dX11_toldOf_75 ?_
    refine V_iload_1 hx dX11_toldOf_76 ?_
    refine V_iconst hx dX11_toldOf_77 ?_
    refine V_v2Q hx el ed (c_X11_of hN hF (by omega)) myX11_of mlX11_99 dX11_toldOf_78 ⟨_, rfl, rfl⟩ (k49 hN) (by decide) (by omega) rfl (by first | exact Nat.le_of_ble_eq_true rfl | simp [vI, vL, vR_cat, Value.category]) (fun r78 => ?_)
    refine V_ireturn hx dX11_toldOf_81 (by omega) (by omega) ?_
    exact ⟨by unfold toldF; (repeat (first | rw [cif_t (by omega)] | rw [cif_f (by omega)])); all_goals (exfalso; omega), rfl, rfl⟩
  · refine V_tblIn (tgt := 82) hx dX11_toldOf_1 (by omega) (by omega) (by omega) (by rw [hsw]; rfl) (by decide) ?_
    refine V_aload_0 hx dX11_toldOf_82 ?_
    refine V_iload_1 hx dX11_toldOf_83 ?_
    refine V_iconst hx dX11_toldOf_84 ?_
    refine V_v2Q hx el ed (c_X11_of hN hF (by omega)) myX11_of mlX11_99 dX11_toldOf_85 ⟨_, rfl, rfl⟩ (k49 hN) (by decide) (by omega) rfl (by first | exact Nat.le_of_ble_eq_true rfl | simp [vI, vL, vR_cat, Value.category]) (fun r85 => ?_)
    refine V_ireturn hx dX11_toldOf_88 (by omega) (by omega) ?_
    exact ⟨by unfold toldF; (repeat (first | rw [cif_t (by omega)] | rw [cif_f (by omega)])); all_goals (exfalso; omega), rfl, rfl⟩
  · refine V_tblIn (tgt := 89) hx dX11_toldOf_1 (by omega) (by omega) (by omega) (by rw [hsw]; rfl) (by decide) ?_
    refine V_aload_0 hx dX11_toldOf_89 ?_
    refine V_iload_1 hx dX11_toldOf_90 ?_
    refine V_bipush hx dX11_toldOf_91 (by decide) ?_
    refine V_v2Q hx el ed (c_X11_of hN hF (by omega)) myX11_of mlX11_99 dX11_toldOf_93 ⟨_, rfl, rfl⟩ (k49 hN) (by decide) (by omega) rfl (by first | exact Nat.le_of_ble_eq_true rfl | simp [vI, vL, vR_cat, Value.category]) (fun r93 => ?_)
    refine V_ireturn hx dX11_toldOf_96 (by omega) (by omega) ?_
    exact ⟨by unfold toldF; (repeat (first | rw [cif_t (by omega)] | rw [cif_f (by omega)])); all_goals (exfalso; omega), rfl, rfl⟩
  · refine V_tblIn (tgt := 97) hx dX11_toldOf_1 (by omega) (by omega) (by omega) (by rw [hsw]; rfl) (by decide) ?_
    refine V_aload_0 hx dX11_toldOf_97 ?_
    refine V_iload_1 hx dX11_toldOf_98 ?_
    refine V_iconst hx dX11_toldOf_99 ?_
    refine V_v2Q hx el ed (c_X11_of hN hF (by omega)) myX11_of mlX11_99 dX11_toldOf_100 ⟨_, rfl, rfl⟩ (k49 hN) (by decide) (by omega) rfl (by first | exact Nat.le_of_ble_eq_true rfl | simp [vI, vL, vR_cat, Value.category]) (fun r100 => ?_)
    refine V_ireturn hx dX11_toldOf_103 (by omega) (by omega) ?_
    exact ⟨by unfold toldF; (repeat (first | rw [cif_t (by omega)] | rw [cif_f (by omega)])); all_goals (exfalso; omega), rfl, rfl⟩
  · refine V_tblIn (tgt := 104) hx dX11_toldOf_1 (by omega) (by omega) (by omega) (by rw [hsw]; rfl) (by decide) ?_
    refine V_aload_0 hx dX11_toldOf_104 ?_
    refine V_iload_1 hx dX11_toldOf_105 ?_
    refine V_iconst hx dX11_toldOf_106 ?_
    refine V_v2Q hx el ed (c_X11_of hN hF (by omega)) myX11_of mlX11_99 dX11_toldOf_107 ⟨_, rfl, rfl⟩ (k49 hN) (by decide) (by omega) rfl (by first | exact Nat.le_of_ble_eq_true rfl | simp [vI, vL, vR_cat, Value.category]) (fun r107 => ?_)
    refine V_ireturn hx dX11_toldOf_110 (by omega) (by omega) ?_
    exact ⟨by unfold toldF; (repeat (first | rw [cif_t (by omega)] | rw [cif_f (by omega)])); all_goals (exfalso; omega), rfl, rfl⟩
  · refine V_tblIn (tgt := 111) hx dX11_toldOf_1 (by omega) (by omega) (by omega) (by rw [hsw]; rfl) (by decide) ?_
    refine V_aload_0 hx dX11_toldOf_111 ?_
    refine V_iload_1 hx dX11_toldOf_112 ?_
    refine V_bipush hx dX11_toldOf_113 (by decide) ?_
    refine V_v2Q hx el ed (c_X11_of hN hF (by omega)) myX11_of mlX11_99 dX11_toldOf_115 ⟨_, rfl, rfl⟩ (k49 hN) (by decide) (by omega) rfl (by first | exact Nat.le_of_ble_eq_true rfl | simp [vI, vL, vR_cat, Value.category]) (fun r115 => ?_)
    refine V_ireturn hx dX11_toldOf_118 (by omega) (by omega) ?_
    exact ⟨by unfold toldF; (repeat (first | rw [cif_t (by omega)] | rw [cif_f (by omega)])); all_goals (exfalso; omega), rfl, rfl⟩
  · refine V_tblOut (tgt := 119) hx dX11_toldOf_1 (by omega) (by omega) (by decide) ?_
    refine V_aload_0 hx dX11_toldOf_119 ?_
    refine V_iload_1 hx dX11_toldOf_120 ?_
    refine V_bipush hx dX11_toldOf_121 (by decide) ?_
    refine V_v2Q hx el ed (c_X11_of hN hF (by omega)) myX11_of mlX11_99 dX11_toldOf_123 ⟨_, rfl, rfl⟩ (k49 hN) (by decide) (by omega) rfl (by first | exact Nat.le_of_ble_eq_true rfl | simp [vI, vL, vR_cat, Value.category]) (fun r123 => ?_)
    refine V_ireturn hx dX11_toldOf_126 (by omega) (by omega) ?_
    exact ⟨by unfold toldF; (repeat (first | rw [cif_t (by omega)] | rw [cif_f (by omega)])); all_goals (exfalso; omega), rfl, rfl⟩

set_option maxRecDepth 8000 in
theorem c_X11_told {l : Launch} {d : Dd} {z : Nat} {N : Int} {I : Mm} {w k : Int} (hN : 67 ≤ N) (hF : Fx I) (hm : 0 ≤ I 49 6 ∧ I 49 6 ≤ 1000) (hw : -2147483648 ≤ w ∧ w ≤ 2147483647) (hk : -2147483648 ≤ k ∧ k ≤ 2147483647) : Cn l d z yX11_told cX11_told 3 (some .int) 2 46 0 0 [vR z 49, vI w, vI k] N I (pv (vI (aTold I w k)) N I) := by
  refine Cn.ofA [(vR z 49, false), (vI w, false), (vI k, false)] [some (vR z 49), some (vI w), some (vI k)] RX11 (by decide) rfl ⟨cR z 49, rfl, rfl, trivial⟩ (Nat.le_of_ble_eq_true rfl) rfl (fun x ed el hx hini => ?_)
  refine V_aload_0 hx dX11_told_0 ?_
  refine V_iload_1 hx dX11_told_1 ?_
  refine V_v1P hx el ed (c_X11_isWord hN hF (by omega) (by omega)) myX11_isWord mlX11_189 dX11_told_2 ⟨_, rfl, rfl⟩ (k49 hN) (by decide) (by omega) rfl (by first | exact Nat.le_of_ble_eq_true rfl | simp [vI, vL, vR_cat, Value.category]) ?_
  refine V_ifB_eq (tgt := 29) hx dX11_told_5 (by decide) (fun h5 => ?_) (fun h5 => ?_)
  · refine V_iconst hx dX11_told_29 ?_
    refine V_ireturn hx dX11_told_30 (by omega) (by omega) ?_
    exact ⟨by unfold aTold; (repeat (first | rw [cif_t (by omega)] | rw [cif_f (by omega)])); all_goals (exfalso; omega), rfl, rfl⟩
  · refine V_iload_2 hx dX11_told_8 ?_
    refine V_i2l hx dX11_told_9 (by omega) ?_
    refine V_lconst (v := 0) hx dX11_told_10 (by decide) ?_
    refine V_ldc2 (v := 9) hx kcX11_74 dX11_told_11 (by decide) ?_
    refine V_s3P hx el ed (c_X11_in (by omega) (by omega) (by omega)) myX11_in mlX11_70 dX11_told_14 (by decide) (by omega) rfl (by first | exact Nat.le_of_ble_eq_true rfl | simp [vI, vL, vR_cat, Value.category]) ?_
    refine V_ifB_eq (tgt := 29) hx dX11_told_17 (by decide) (fun h17 => ?_) (fun h17 => ?_)
    · refine V_iconst hx dX11_told_29 ?_
      refine V_ireturn hx dX11_told_30 (by omega) (by omega) ?_
      exact ⟨by unfold aTold; (repeat (first | rw [cif_t (by omega)] | rw [cif_f (by omega)])); all_goals (exfalso; omega), rfl, rfl⟩
    · refine V_aload_0 hx dX11_told_20 ?_
      refine V_iload_1 hx dX11_told_21 ?_
      refine V_iload_2 hx dX11_told_22 ?_
      refine V_v2P hx el ed (c_X11_toldOf hN hF (by omega) (by omega)) myX11_toldOf mlX11_192 dX11_told_23 ⟨_, rfl, rfl⟩ (k49 hN) (by decide) (by omega) rfl (by first | exact Nat.le_of_ble_eq_true rfl | simp [vI, vL, vR_cat, Value.category]) ?_
      refine V_goto (tgt := 30) hx dX11_told_26 (by decide) ?_
      refine V_ireturn hx dX11_told_30 (by omega) (by omega) ?_
      exact ⟨by unfold aTold; (repeat (first | rw [cif_t (by omega)] | rw [cif_f (by omega)])); all_goals (exfalso; omega), rfl, rfl⟩

set_option maxRecDepth 8000 in
theorem c_X11_rank {l : Launch} {d : Dd} {z : Nat} {N : Int} {I : Mm} {w q : Int} (hN : 67 ≤ N) (hF : Fx I) (hm : 0 ≤ I 49 6 ∧ I 49 6 ≤ 1000) (hw : -2147483648 ≤ w ∧ w ≤ 2147483647) (hq : -2147483648 ≤ q ∧ q ≤ 2147483647) : Cn l d z yX11_rank cX11_rank 3 (some .long) 2 47 0 0 [vR z 49, vI w, vI q] N I (pv (vL (aRank I w q)) N I) := by
  refine Cn.ofA [(vR z 49, false), (vI w, false), (vI q, false)] [some (vR z 49), some (vI w), some (vI q)] RX11 (by decide) rfl ⟨cR z 49, rfl, rfl, trivial⟩ (Nat.le_of_ble_eq_true rfl) rfl (fun x ed el hx hini => ?_)
  refine V_aload_0 hx dX11_rank_0 ?_
  refine V_iload_1 hx dX11_rank_1 ?_
  refine V_v1P hx el ed (c_X11_isWord hN hF (by omega) (by omega)) myX11_isWord mlX11_189 dX11_rank_2 ⟨_, rfl, rfl⟩ (k49 hN) (by decide) (by omega) rfl (by first | exact Nat.le_of_ble_eq_true rfl | simp [vI, vL, vR_cat, Value.category]) ?_
  refine V_ifB_eq (tgt := 27) hx dX11_rank_5 (by decide) (fun h5 => ?_) (fun h5 => ?_)
  · refine V_ldc2 (v := -1099511627777) hx kcX11_195 dX11_rank_27 (by decide) ?_
    refine V_lreturn hx dX11_rank_30 (by omega) (by omega) ?_
    exact ⟨by unfold aRank; (repeat (first | rw [cif_t (by omega)] | rw [cif_f (by omega)])); all_goals (exfalso; omega), rfl, rfl⟩
  · refine V_iload_2 hx dX11_rank_8 ?_
    refine V_i2l hx dX11_rank_9 (by omega) ?_
    refine V_lconst (v := 0) hx dX11_rank_10 (by decide) ?_
    refine V_lconst (v := 1) hx dX11_rank_11 (by decide) ?_
    refine V_s3P hx el ed (c_X11_in (by omega) (by omega) (by omega)) myX11_in mlX11_70 dX11_rank_12 (by decide) (by omega) rfl (by first | exact Nat.le_of_ble_eq_true rfl | simp [vI, vL, vR_cat, Value.category]) ?_
    refine V_ifB_eq (tgt := 27) hx dX11_rank_15 (by decide) (fun h15 => ?_) (fun h15 => ?_)
    · refine V_ldc2 (v := -1099511627777) hx kcX11_195 dX11_rank_27 (by decide) ?_
      refine V_lreturn hx dX11_rank_30 (by omega) (by omega) ?_
      exact ⟨by unfold aRank; (repeat (first | rw [cif_t (by omega)] | rw [cif_f (by omega)])); all_goals (exfalso; omega), rfl, rfl⟩
    · refine V_aload_0 hx dX11_rank_18 ?_
      refine V_iload_1 hx dX11_rank_19 ?_
      refine V_iload_2 hx dX11_rank_20 ?_
      refine V_v2K hx el ed (c_X11_rankOf hN hF (by omega) (by omega)) myX11_rankOf mlX11_134 dX11_rank_21 ⟨_, rfl, rfl⟩ (k49 hN) (by decide) (by omega) rfl (by first | exact Nat.le_of_ble_eq_true rfl | simp [vI, vL, vR_cat, Value.category]) (fun r21 => ?_)
      refine V_goto (tgt := 30) hx dX11_rank_24 (by decide) ?_
      refine V_lreturn hx dX11_rank_30 (by omega) (by omega) ?_
      exact ⟨by unfold aRank; (repeat (first | rw [cif_t (by omega)] | rw [cif_f (by omega)])); all_goals (exfalso; omega), rfl, rfl⟩

set_option maxRecDepth 8000 in
theorem c_X11_full {l : Launch} {d : Dd} {z : Nat} {N : Int} {I : Mm} {k v : Int} (hN : 67 ≤ N) (hF : Fx I) (hk : -2147483648 ≤ k ∧ k ≤ 2147483647) (hv : -2147483648 ≤ v ∧ v ≤ 2147483647) : Cn l d z yX11_full cX11_full 4 (some .int) 1 25 0 0 [vR z 49, vI k, vI v] N I (pI (fun r N' I' => r = aFull I k v ∧ I' = gFull I k v ∧ N' = N ∧ Fx I')) := by
  refine Cn.ofA [(vR z 49, false), (vI k, false), (vI v, false)] [some (vR z 49), some (vI k), some (vI v), none] RX11 (by decide) rfl ⟨cR z 49, rfl, rfl, trivial⟩ (Nat.le_of_ble_eq_true rfl) rfl (fun x ed el hx hini => ?_)
  refine V_iload_1 hx dX11_full_0 ?_
  refine V_if_ne (tgt := 28) hx dX11_full_1 (by decide) (by omega) (fun h1 => ?_) (fun h1 => ?_)
  · refine V_iload_1 hx dX11_full_28 ?_
    refine V_iconst hx dX11_full_29 ?_
    refine V_icmp_ne (tgt := 57) hx dX11_full_30 (by decide) (by omega) (by omega) (fun h30 => ?_) (fun h30 => ?_)
    · refine V_iconst hx dX11_full_57 ?_
      refine V_ireturn hx dX11_full_58 (by omega) (by omega) ?_
      exact ⟨_, rfl, by unfold aFull; (repeat (first | rw [cif_t (by omega)] | rw [cif_f (by omega)])); all_goals (exfalso; omega), by unfold gFull; (repeat (first | rw [cif_t (by omega)] | rw [cif_f (by omega)])); all_goals (exfalso; omega), rfl, hF⟩
    · refine V_iload_2 hx dX11_full_33 ?_
      refine V_i2l hx dX11_full_34 (by omega) ?_
      refine V_lconst (v := 0) hx dX11_full_35 (by decide) ?_
      refine V_ldc2 (v := 2) hx kcX11_138 dX11_full_36 (by decide) ?_
      refine V_s3P hx el ed (c_X11_in (by omega) (by omega) (by omega)) myX11_in mlX11_70 dX11_full_39 (by decide) (by omega) rfl (by first | exact Nat.le_of_ble_eq_true rfl | simp [vI, vL, vR_cat, Value.category]) ?_
      refine V_ifB_eq (tgt := 57) hx dX11_full_42 (by decide) (fun h42 => ?_) (fun h42 => ?_)
      · refine V_iconst hx dX11_full_57 ?_
        refine V_ireturn hx dX11_full_58 (by omega) (by omega) ?_
        exact ⟨_, rfl, by unfold aFull; (repeat (first | rw [cif_t (by omega)] | rw [cif_f (by omega)])); all_goals (exfalso; omega), by unfold gFull; (repeat (first | rw [cif_t (by omega)] | rw [cif_f (by omega)])); all_goals (exfalso; omega), rfl, hF⟩
      · refine V_aload_0 hx dX11_full_45 ?_
        refine V_getIx 13 hx hF flX11_122 dX11_full_46 rfl rfl (k49 hN) (fun r46 => ?_)
        refine V_istore_3 hx (by first | exact nc_I | exact nc_R | exact nc_n) dX11_full_49 ?_
        refine V_aload_0 hx dX11_full_50 ?_
        refine V_iload_2 hx dX11_full_51 ?_
        refine V_putIx 13 hx hF flX11_122 dX11_full_52 rfl rfl (fun r h => by cases h; rfl) (k49 hN) rfl (by omega) (Or.inl (by decide)) (fun hF => ?_)
        refine V_iload_3 hx dX11_full_55 ?_
        refine V_ireturn hx dX11_full_56 (by omega) (by omega) ?_
        exact ⟨_, rfl, by unfold aFull; (repeat (first | rw [cif_t (by omega)] | rw [cif_f (by omega)])); all_goals (exfalso; omega), by unfold gFull; (repeat (first | rw [cif_t (by omega)] | rw [cif_f (by omega)])); all_goals (exfalso; omega), rfl, hF⟩
  · refine V_iload_2 hx dX11_full_4 ?_
    refine V_i2l hx dX11_full_5 (by omega) ?_
    refine V_lconst (v := 1) hx dX11_full_6 (by decide) ?_
    refine V_ldc2 (v := 24) hx kcX11_197 dX11_full_7 (by decide) ?_
    refine V_s3P hx el ed (c_X11_in (by omega) (by omega) (by omega)) myX11_in mlX11_70 dX11_full_10 (by decide) (by omega) rfl (by first | exact Nat.le_of_ble_eq_true rfl | simp [vI, vL, vR_cat, Value.category]) ?_
    refine V_ifB_eq (tgt := 28) hx dX11_full_13 (by decide) (fun h13 => ?_) (fun h13 => ?_)
    · refine V_iload_1 hx dX11_full_28 ?_
      refine V_iconst hx dX11_full_29 ?_
      refine V_icmp_ne (tgt := 57) hx dX11_full_30 (by decide) (by omega) (by omega) (fun h30 => ?_) (fun h30 => ?_)
      · refine V_iconst hx dX11_full_57 ?_
        refine V_ireturn hx dX11_full_58 (by omega) (by omega) ?_
        exact ⟨_, rfl, by unfold aFull; (repeat (first | rw [cif_t (by omega)] | rw [cif_f (by omega)])); all_goals (exfalso; omega), by unfold gFull; (repeat (first | rw [cif_t (by omega)] | rw [cif_f (by omega)])); all_goals (exfalso; omega), rfl, hF⟩
      · refine V_iload_2 hx dX11_full_33 ?_
        refine V_i2l hx dX11_full_34 (by omega) ?_
        refine V_lconst (v := 0) hx dX11_full_35 (by decide) ?_
        refine V_ldc2 (v := 2) hx kcX11_138 dX11_full_36 (by decide) ?_
        refine V_s3P hx el ed (c_X11_in (by omega) (by omega) (by omega)) myX11_in mlX11_70 dX11_full_39 (by decide) (by omega) rfl (by first | exact Nat.le_of_ble_eq_true rfl | simp [vI, vL, vR_cat, Value.category]) ?_
        refine V_ifB_eq (tgt := 57) hx dX11_full_42 (by decide) (fun h42 => ?_) (fun h42 => ?_)
        · refine V_iconst hx dX11_full_57 ?_
          refine V_ireturn hx dX11_full_58 (by omega) (by omega) ?_
          exact ⟨_, rfl, by unfold aFull; (repeat (first | rw [cif_t (by omega)] | rw [cif_f (by omega)])); all_goals (exfalso; omega), by unfold gFull; (repeat (first | rw [cif_t (by omega)] | rw [cif_f (by omega)])); all_goals (exfalso; omega), rfl, hF⟩
        · refine V_aload_0 hx dX11_full_45 ?_
          refine V_getIx 13 hx hF flX11_122 dX11_full_46 rfl rfl (k49 hN) (fun r46 => ?_)
          refine V_istore_3 hx (by first | exact nc_I | exact nc_R | exact nc_n) dX11_full_49 ?_
          refine V_aload_0 hx dX11_full_50 ?_
          refine V_iload_2 hx dX11_full_51 ?_
          refine V_putIx 13 hx hF flX11_122 dX11_full_52 rfl rfl (fun r h => by cases h; rfl) (k49 hN) rfl (by omega) (Or.inl (by decide)) (fun hF => ?_)
          refine V_iload_3 hx dX11_full_55 ?_
          refine V_ireturn hx dX11_full_56 (by omega) (by omega) ?_
          exact ⟨_, rfl, by unfold aFull; (repeat (first | rw [cif_t (by omega)] | rw [cif_f (by omega)])); all_goals (exfalso; omega), by unfold gFull; (repeat (first | rw [cif_t (by omega)] | rw [cif_f (by omega)])); all_goals (exfalso; omega), rfl, hF⟩
    · refine V_aload_0 hx dX11_full_16 ?_
      refine V_getIx 12 hx hF flX11_65 dX11_full_17 rfl rfl (k49 hN) (fun r17 => ?_)
      refine V_istore_3 hx (by first | exact nc_I | exact nc_R | exact nc_n) dX11_full_20 ?_
      refine V_aload_0 hx dX11_full_21 ?_
      refine V_iload_2 hx dX11_full_22 ?_
      refine V_putIx 12 hx hF flX11_65 dX11_full_23 rfl rfl (fun r h => by cases h; rfl) (k49 hN) rfl (by omega) (Or.inl (by decide)) (fun hF => ?_)
      refine V_iload_3 hx dX11_full_26 ?_
      refine V_ireturn hx dX11_full_27 (by omega) (by omega) ?_
      exact ⟨_, rfl, by unfold aFull; (repeat (first | rw [cif_t (by omega)] | rw [cif_f (by omega)])); all_goals (exfalso; omega), by unfold gFull; (repeat (first | rw [cif_t (by omega)] | rw [cif_f (by omega)])); all_goals (exfalso; omega), rfl, hF⟩

set_option maxRecDepth 8000 in
theorem c_X11_next {l : Launch} {d : Dd} {z : Nat} {N : Int} {I : Mm} (hN : 67 ≤ N) (hF : Fx I) (hm : 0 ≤ I 49 6 ∧ I 49 6 ≤ 1000) : Cn l d z yX11_next cX11_next 2 (some .int) 4 89 0 0 [vR z 49] N I (pv (vI (aNext I)) N I) := by
  refine Cn.ofA [(vR z 49, false)] [some (vR z 49), none] RX11 (by decide) rfl ⟨cR z 49, trivial⟩ (Nat.le_of_ble_eq_true rfl) rfl (fun x ed el hx hini => ?_)
  refine V_aload_0 hx dX11_next_0 ?_
  refine V_v0Q hx el ed (c_X11_markNext hN hF (by omega)) myX11_markNext mlX11_205 dX11_next_1 ⟨_, rfl, rfl⟩ (k49 hN) (by decide) (by omega) rfl (by first | exact Nat.le_of_ble_eq_true rfl | simp [vI, vL, vR_cat, Value.category]) (fun r1 => ?_)
  refine V_istore_1 hx (by first | exact nc_I | exact nc_R | exact nc_n) dX11_next_4 ?_
  have hk : mkN I = -4 ∨ (0 ≤ mkN I ∧ mkN I < 1000) := by
    rcases bst_r (fun w => I 55 (13 * w + 12) = 1 ∧ hasO I (I 55 (13 * w + 8))) (fun w b => rk I w 1 < rk I b 1) (I 49 6).toNat with h | ⟨h1, h2, -⟩
    · exact Or.inl h
    · refine Or.inr ⟨h1, ?_⟩
      have : mkN I < ((I 49 6).toNat : Int) := h2
      omega
  refine V_iload_1 hx dX11_next_5 ?_
  refine V_bipush hx dX11_next_6 (by decide) ?_
  refine V_icmp_ne (tgt := 16) hx dX11_next_8 (by decide) (by omega) (by omega) (fun h8 => ?_) (fun h8 => ?_)
  · refine V_aload_0 hx dX11_next_16 ?_
    refine V_aload_0 hx dX11_next_17 ?_
    refine V_iload_1 hx dX11_next_18 ?_
    refine V_bipush hx dX11_next_19 (by decide) ?_
    refine V_v2Q hx el ed (c_X11_of hN hF (by omega)) myX11_of mlX11_99 dX11_next_21 ⟨_, rfl, rfl⟩ (k49 hN) (by decide) (by omega) rfl (by first | exact Nat.le_of_ble_eq_true rfl | simp [vI, vL, vR_cat, Value.category]) (fun r21 => ?_)
    refine V_v1Q hx el ed (c_X11_wordOf hN hF (by omega) (by omega)) myX11_wordOf mlX11_208 dX11_next_24 ⟨_, rfl, rfl⟩ (k49 hN) (by decide) (by omega) rfl (by first | exact Nat.le_of_ble_eq_true rfl | simp [vI, vL, vR_cat, Value.category]) (fun r24 => ?_)
    refine V_ireturn hx dX11_next_27 (by omega) (by omega) ?_
    exact ⟨by unfold aNext; (repeat (first | rw [cif_t (by omega)] | rw [cif_f (by omega)])); all_goals (exfalso; omega), rfl, rfl⟩
  · refine V_bipush hx dX11_next_11 (by decide) ?_
    refine V_goto (tgt := 27) hx dX11_next_13 (by decide) ?_
    refine V_ireturn hx dX11_next_27 (by omega) (by omega) ?_
    exact ⟨by unfold aNext; (repeat (first | rw [cif_t (by omega)] | rw [cif_f (by omega)])); all_goals (exfalso; omega), rfl, rfl⟩

set_option maxRecDepth 8000 in
theorem c_X11_count {l : Launch} {d : Dd} {z : Nat} {N : Int} {I : Mm} {k : Int} (hN : 67 ≤ N) (hF : Fx I) (hm : 0 ≤ I 49 6 ∧ I 49 6 ≤ 1000) (hk : -2147483648 ≤ k ∧ k ≤ 2147483647) : Cn l d z yX11_count cX11_count 2 (some .int) 3 65 0 0 [vR z 49, vI k] N I (pv (vI (aCount I k)) N I) := by
  refine Cn.ofA [(vR z 49, false), (vI k, false)] [some (vR z 49), some (vI k)] RX11 (by decide) rfl ⟨cR z 49, rfl, trivial⟩ (Nat.le_of_ble_eq_true rfl) rfl (fun x ed el hx hini => ?_)
  refine V_iload_1 hx dX11_count_0 ?_
  rcases (show k = 0 ∨ k = 1 ∨ k = 2 ∨ k = 3 ∨ k = 4 ∨ k = 5 ∨ k = 6 ∨ k = 7 ∨ k < 0 ∨ 7 < k by omega) with hsw | hsw | hsw | hsw | hsw | hsw | hsw | hsw | hsw
  · refine V_tblIn (tgt := 48) hx dX11_count_1 (by omega) (by omega) (by omega) (by rw [hsw]; rfl) (by decide) ?_
    refine V_aload_0 hx dX11_count_48 ?_
    refine V_getIx 6 hx hF flX11_96 dX11_count_49 rfl rfl (k49 hN) (fun r49 => ?_)
    refine V_ireturn hx dX11_count_52 (by omega) (by omega) ?_
    exact ⟨by unfold aCount; (repeat (first | rw [cif_t (by omega)] | rw [cif_f (by omega)])); all_goals (exfalso; omega), rfl, rfl⟩
  · refine V_tblIn (tgt := 53) hx dX11_count_1 (by omega) (by omega) (by omega) (by rw [hsw]; rfl) (by decide) ?_
    refine V_aload_0 hx dX11_count_53 ?_
    refine V_iconst hx dX11_count_54 ?_
    refine V_v1Q hx el ed (c_X11_howMany hN hF (by omega) (by omega)) myX11_howMany mlX11_220 dX11_count_55 ⟨_, rfl, rfl⟩ (k49 hN) (by decide) (by omega) rfl (by first | exact Nat.le_of_ble_eq_true rfl | simp [vI, vL, vR_cat, Value.category]) (fun r55 => ?_)
    refine V_ireturn hx dX11_count_58 (by omega) (by omega) ?_
    exact ⟨by unfold aCount; (repeat (first | rw [cif_t (by omega)] | rw [cif_f (by omega)])); all_goals (exfalso; omega), rfl, rfl⟩
  · refine V_tblIn (tgt := 59) hx dX11_count_1 (by omega) (by omega) (by omega) (by rw [hsw]; rfl) (by decide) ?_
    refine V_aload_0 hx dX11_count_59 ?_
    refine V_iconst hx dX11_count_60 ?_
    refine V_v1Q hx el ed (c_X11_howMany hN hF (by omega) (by omega)) myX11_howMany mlX11_220 dX11_count_61 ⟨_, rfl, rfl⟩ (k49 hN) (by decide) (by omega) rfl (by first | exact Nat.le_of_ble_eq_true rfl | simp [vI, vL, vR_cat, Value.category]) (fun r61 => ?_)
    refine V_ireturn hx dX11_count_64 (by omega) (by omega) ?_
    exact ⟨by unfold aCount; (repeat (first | rw [cif_t (by omega)] | rw [cif_f (by omega)])); all_goals (exfalso; omega), rfl, rfl⟩
  · refine V_tblIn (tgt := 65) hx dX11_count_1 (by omega) (by omega) (by omega) (by rw [hsw]; rfl) (by decide) ?_
    refine V_aload_0 hx dX11_count_65 ?_
    refine V_iconst hx dX11_count_66 ?_
    refine V_v1Q hx el ed (c_X11_howMany hN hF (by omega) (by omega)) myX11_howMany mlX11_220 dX11_count_67 ⟨_, rfl, rfl⟩ (k49 hN) (by decide) (by omega) rfl (by first | exact Nat.le_of_ble_eq_true rfl | simp [vI, vL, vR_cat, Value.category]) (fun r67 => ?_)
    refine V_ireturn hx dX11_count_70 (by omega) (by omega) ?_
    exact ⟨by unfold aCount; (repeat (first | rw [cif_t (by omega)] | rw [cif_f (by omega)])); all_goals (exfalso; omega), rfl, rfl⟩
  · refine V_tblIn (tgt := 71) hx dX11_count_1 (by omega) (by omega) (by omega) (by rw [hsw]; rfl) (by decide) ?_
    refine V_aload_0 hx dX11_count_71 ?_
    refine V_iconst hx dX11_count_72 ?_
    refine V_v1Q hx el ed (c_X11_howMany hN hF (by omega) (by omega)) myX11_howMany mlX11_220 dX11_count_73 ⟨_, rfl, rfl⟩ (k49 hN) (by decide) (by omega) rfl (by first | exact Nat.le_of_ble_eq_true rfl | simp [vI, vL, vR_cat, Value.category]) (fun r73 => ?_)
    refine V_ireturn hx dX11_count_76 (by omega) (by omega) ?_
    exact ⟨by unfold aCount; (repeat (first | rw [cif_t (by omega)] | rw [cif_f (by omega)])); all_goals (exfalso; omega), rfl, rfl⟩
  · refine V_tblIn (tgt := 77) hx dX11_count_1 (by omega) (by omega) (by omega) (by rw [hsw]; rfl) (by decide) ?_
    refine V_aload_0 hx dX11_count_77 ?_
    refine V_v0Q hx el ed (c_X11_opens hN hF (by omega)) myX11_opens mlX11_223 dX11_count_78 ⟨_, rfl, rfl⟩ (k49 hN) (by decide) (by omega) rfl (by first | exact Nat.le_of_ble_eq_true rfl | simp [vI, vL, vR_cat, Value.category]) (fun r78 => ?_)
    refine V_ireturn hx dX11_count_81 (by omega) (by omega) ?_
    exact ⟨by unfold aCount; (repeat (first | rw [cif_t (by omega)] | rw [cif_f (by omega)])); all_goals (exfalso; omega), rfl, rfl⟩
  · refine V_tblIn (tgt := 82) hx dX11_count_1 (by omega) (by omega) (by omega) (by rw [hsw]; rfl) (by decide) ?_
    refine V_aload_0 hx dX11_count_82 ?_
    refine V_getIx 7 hx hF flX11_111 dX11_count_83 rfl rfl (k49 hN) (fun r83 => ?_)
    refine V_ireturn hx dX11_count_86 (by omega) (by omega) ?_
    exact ⟨by unfold aCount; (repeat (first | rw [cif_t (by omega)] | rw [cif_f (by omega)])); all_goals (exfalso; omega), rfl, rfl⟩
  · refine V_tblIn (tgt := 87) hx dX11_count_1 (by omega) (by omega) (by omega) (by rw [hsw]; rfl) (by decide) ?_
    refine V_aload_0 hx dX11_count_87 ?_
    refine V_getIx 8 hx hF flX11_108 dX11_count_88 rfl rfl (k49 hN) (fun r88 => ?_)
    refine V_ireturn hx dX11_count_91 (by omega) (by omega) ?_
    exact ⟨by unfold aCount; (repeat (first | rw [cif_t (by omega)] | rw [cif_f (by omega)])); all_goals (exfalso; omega), rfl, rfl⟩
  · refine V_tblOut (tgt := 92) hx dX11_count_1 (by omega) (by omega) (by decide) ?_
    refine V_iconst hx dX11_count_92 ?_
    refine V_ireturn hx dX11_count_93 (by omega) (by omega) ?_
    exact ⟨by unfold aCount; (repeat (first | rw [cif_t (by omega)] | rw [cif_f (by omega)])); all_goals (exfalso; omega), rfl, rfl⟩

set_option maxRecDepth 8000 in
theorem c_X11_sent {l : Launch} {d : Dd} {z : Nat} {N : Int} {I : Mm} {i : Int} (hN : 67 ≤ N) (hF : Fx I) (hi : -2147483648 ≤ i ∧ i ≤ 2147483647) (hg : I 49 11 ≤ 1000) : Cn l d z yX11_sent cX11_sent 2 (some .int) 0 0 0 0 [vR z 49, vI i] N I (pv (vI (aSent I i)) N I) := by
  refine Cn.ofA [(vR z 49, false), (vI i, false)] [some (vR z 49), some (vI i)] RX11 (by decide) rfl ⟨cR z 49, rfl, trivial⟩ (Nat.le_of_ble_eq_true rfl) rfl (fun x ed el hx hini => ?_)
  refine V_iload_1 hx dX11_sent_0 ?_
  refine V_if_ge (tgt := 8) hx dX11_sent_1 (by decide) (by omega) (fun h1 => ?_) (fun h1 => ?_)
  · refine V_iload_1 hx dX11_sent_8 ?_
    refine V_aload_0 hx dX11_sent_9 ?_
    refine V_getIx 11 hx hF flX11_211 dX11_sent_10 rfl rfl (k49 hN) (fun r10 => ?_)
    refine V_icmp_ge (tgt := 25) hx dX11_sent_13 (by decide) (by omega) (by omega) (fun h13 => ?_) (fun h13 => ?_)
    · refine V_bipush hx dX11_sent_25 (by decide) ?_
      refine V_ireturn hx dX11_sent_27 (by omega) (by omega) ?_
      exact ⟨by unfold aSent; (repeat (first | rw [cif_t (by omega)] | rw [cif_f (by omega)])); all_goals (exfalso; omega), rfl, rfl⟩
    · refine V_aload_0 hx dX11_sent_16 ?_
      refine V_getRe hx flX11_28 dX11_sent_17 rfl (k49 hN) (hF.1 49 10 56 rfl) ?_
      refine V_iload_1 hx dX11_sent_20 ?_
      refine V_ialoadx hx hF dX11_sent_21 (k56 hN) (by decide) (by omega) (fun r21 => ?_)
      refine V_goto (tgt := 27) hx dX11_sent_22 (by decide) ?_
      refine V_ireturn hx dX11_sent_27 (by omega) (by omega) ?_
      exact ⟨by unfold aSent; (repeat (first | rw [cif_t (by omega)] | rw [cif_f (by omega)])); all_goals (exfalso; omega), rfl, rfl⟩
  · refine V_iconst hx dX11_sent_4 ?_
    refine V_goto (tgt := 27) hx dX11_sent_5 (by decide) ?_
    refine V_ireturn hx dX11_sent_27 (by omega) (by omega) ?_
    exact ⟨by unfold aSent; (repeat (first | rw [cif_t (by omega)] | rw [cif_f (by omega)])); all_goals (exfalso; omega), rfl, rfl⟩

set_option maxRecDepth 8000 in
theorem c_X11_late {l : Launch} {d : Dd} {z : Nat} {N : Int} {I : Mm} {w : Int} (hN : 67 ≤ N) (hF : Fx I) (hm : 0 ≤ I 49 6 ∧ I 49 6 ≤ 1000) (hw : -2147483648 ≤ w ∧ w ≤ 2147483647) : Cn l d z yX11_late cX11_late 2 (some .int) 2 46 0 0 [vR z 49, vI w] N I (pv (vI (aLate I w)) N I) := by
  refine Cn.ofA [(vR z 49, false), (vI w, false)] [some (vR z 49), some (vI w)] RX11 (by decide) rfl ⟨cR z 49, rfl, trivial⟩ (Nat.le_of_ble_eq_true rfl) rfl (fun x ed el hx hini => ?_)
  refine V_aload_0 hx dX11_late_0 ?_
  refine V_iload_1 hx dX11_late_1 ?_
  refine V_v1P hx el ed (c_X11_isWord hN hF (by omega) (by omega)) myX11_isWord mlX11_189 dX11_late_2 ⟨_, rfl, rfl⟩ (k49 hN) (by decide) (by omega) rfl (by first | exact Nat.le_of_ble_eq_true rfl | simp [vI, vL, vR_cat, Value.category]) ?_
  refine V_ifB_ne (tgt := 13) hx dX11_late_5 (by decide) (fun h5 => ?_) (fun h5 => ?_)
  · refine V_aload_0 hx dX11_late_13 ?_
    refine V_iload_1 hx dX11_late_14 ?_
    refine V_bipush hx dX11_late_15 (by decide) ?_
    refine V_v2Q hx el ed (c_X11_of hN hF (by omega)) myX11_of mlX11_99 dX11_late_17 ⟨_, rfl, rfl⟩ (k49 hN) (by decide) (by omega) rfl (by first | exact Nat.le_of_ble_eq_true rfl | simp [vI, vL, vR_cat, Value.category]) (fun r17 => ?_)
    refine V_iconst hx dX11_late_20 ?_
    refine V_icmp_eq (tgt := 29) hx dX11_late_21 (by decide) (by omega) (by omega) (fun h21 => ?_) (fun h21 => ?_)
    · refine V_aload_0 hx dX11_late_29 ?_
      refine V_iload_1 hx dX11_late_30 ?_
      refine V_bipush hx dX11_late_31 (by decide) ?_
      refine V_v2Q hx el ed (c_X11_of hN hF (by omega)) myX11_of mlX11_99 dX11_late_33 ⟨_, rfl, rfl⟩ (k49 hN) (by decide) (by omega) rfl (by first | exact Nat.le_of_ble_eq_true rfl | simp [vI, vL, vR_cat, Value.category]) (fun r33 => ?_)
      refine V_aload_0 hx dX11_late_36 ?_
      refine V_iload_1 hx dX11_late_37 ?_
      refine V_iconst hx dX11_late_38 ?_
      refine V_v2Q hx el ed (c_X11_of hN hF (by omega)) myX11_of mlX11_99 dX11_late_39 ⟨_, rfl, rfl⟩ (k49 hN) (by decide) (by omega) rfl (by first | exact Nat.le_of_ble_eq_true rfl | simp [vI, vL, vR_cat, Value.category]) (fun r39 => ?_)
      refine V_isub hx dX11_late_42 ?_
      refine V_ireturn hx dX11_late_43 (by omega) (by omega) ?_
      exact ⟨by unfold aLate; (repeat (first | rw [cif_t (by omega)] | rw [cif_f (by omega)])); all_goals (exfalso; omega), rfl, rfl⟩
    · refine V_ldc (v := -100004) hx kcX11_227 dX11_late_24 (by decide) ?_
      refine V_goto (tgt := 43) hx dX11_late_26 (by decide) ?_
      refine V_ireturn hx dX11_late_43 (by omega) (by omega) ?_
      exact ⟨by unfold aLate; (repeat (first | rw [cif_t (by omega)] | rw [cif_f (by omega)])); all_goals (exfalso; omega), rfl, rfl⟩
  · refine V_ldc (v := -100001) hx kcX11_226 dX11_late_8 (by decide) ?_
    refine V_goto (tgt := 43) hx dX11_late_10 (by decide) ?_
    refine V_ireturn hx dX11_late_43 (by omega) (by omega) ?_
    exact ⟨by unfold aLate; (repeat (first | rw [cif_t (by omega)] | rw [cif_f (by omega)])); all_goals (exfalso; omega), rfl, rfl⟩

set_option maxRecDepth 8000 in
theorem c_X11_taken {l : Launch} {d : Dd} {z : Nat} {N : Int} {I : Mm} {s : Int} (hN : 67 ≤ N) (hF : Fx I) (hs : -2147483648 ≤ s ∧ s ≤ 2147483647) : Cn l d z yX11_taken cX11_taken 2 (some .int) 2 45 0 0 [vR z 49, vI s] N I (pv (vI (aTaken I s)) N I) := by
  refine Cn.ofA [(vR z 49, false), (vI s, false)] [some (vR z 49), some (vI s)] RX11 (by decide) rfl ⟨cR z 49, rfl, trivial⟩ (Nat.le_of_ble_eq_true rfl) rfl (fun x ed el hx hini => ?_)
  refine V_iload_1 hx dX11_taken_0 ?_
  refine V_s1P hx el ed (c_X11_isStream (by omega)) myX11_isStream mlX11_84 dX11_taken_1 (by decide) (by omega) rfl (by first | exact Nat.le_of_ble_eq_true rfl | simp [vI, vL, vR_cat, Value.category]) ?_
  refine V_ifB_eq (tgt := 16) hx dX11_taken_4 (by decide) (fun h4 => ?_) (fun h4 => ?_)
  · refine V_iconst hx dX11_taken_16 ?_
    refine V_ireturn hx dX11_taken_17 (by omega) (by omega) ?_
    exact ⟨by unfold aTaken; (repeat (first | rw [cif_t (by omega)] | rw [cif_f (by omega)])); all_goals (exfalso; omega), rfl, rfl⟩
  · refine V_aload_0 hx dX11_taken_7 ?_
    refine V_getRe hx flX11_22 dX11_taken_8 rfl (k49 hN) (hF.1 49 4 54 rfl) ?_
    refine V_iload_1 hx dX11_taken_11 ?_
    refine V_ialoadx hx hF dX11_taken_12 (k54 hN) (by decide) (by omega) (fun r12 => ?_)
    refine V_goto (tgt := 17) hx dX11_taken_13 (by decide) ?_
    refine V_ireturn hx dX11_taken_17 (by omega) (by omega) ?_
    exact ⟨by unfold aTaken; (repeat (first | rw [cif_t (by omega)] | rw [cif_f (by omega)])); all_goals (exfalso; omega), rfl, rfl⟩

set_option maxRecDepth 8000 in
theorem c_X11_set {l : Launch} {d : Dd} {z : Nat} {N : Int} {I : Mm} {s k v : Int} (hN : 67 ≤ N) (hF : Fx I) (hs : -2147483648 ≤ s ∧ s ≤ 2147483647) (hk : -2147483648 ≤ k ∧ k ≤ 2147483647) (hv : -2147483648 ≤ v ∧ v ≤ 2147483647) : Cn l d z yX11_set cX11_set 5 (some .int) 2 46 0 0 [vR z 49, vI s, vI k, vI v] N I (pI (fun r N' I' => r = aSet I s k v ∧ I' = gSet I s k v ∧ N' = N ∧ Fx I')) := by
  refine Cn.ofA [(vR z 49, false), (vI s, false), (vI k, false), (vI v, false)] [some (vR z 49), some (vI s), some (vI k), some (vI v), none] RX11 (by decide) rfl ⟨cR z 49, rfl, rfl, rfl, trivial⟩ (Nat.le_of_ble_eq_true rfl) rfl (fun x ed el hx hini => ?_)
  refine V_iload_1 hx dX11_set_0 ?_
  refine V_s1P hx el ed (c_X11_isStream (by omega)) myX11_isStream mlX11_84 dX11_set_1 (by decide) (by omega) rfl (by first | exact Nat.le_of_ble_eq_true rfl | simp [vI, vL, vR_cat, Value.category]) ?_
  refine V_ifB_eq (tgt := 15) hx dX11_set_4 (by decide) (fun h4 => ?_) (fun h4 => ?_)
  · refine V_iconst hx dX11_set_15 ?_
    refine V_ireturn hx dX11_set_16 (by omega) (by omega) ?_
    exact ⟨_, rfl, by unfold aSet; (repeat (first | rw [cif_t (by omega)] | rw [cif_f (by omega)])); all_goals (exfalso; omega), by unfold gSet; (repeat (first | rw [cif_t (by omega)] | rw [cif_f (by omega)])); all_goals (exfalso; omega), rfl, hF⟩
  · refine V_iload_2 hx dX11_set_7 ?_
    refine V_iload_3 hx dX11_set_8 ?_
    refine V_s2P hx el ed (c_X11_isSet (by omega) (by omega)) myX11_isSet mlX11_88 dX11_set_9 (by decide) (by omega) rfl (by first | exact Nat.le_of_ble_eq_true rfl | simp [vI, vL, vR_cat, Value.category]) ?_
    refine V_ifB_ne (tgt := 17) hx dX11_set_12 (by decide) (fun h12 => ?_) (fun h12 => ?_)
    · refine V_aload_0 hx dX11_set_17 ?_
      refine V_iload_1 hx dX11_set_18 ?_
      refine V_iload_2 hx dX11_set_19 ?_
      refine V_v2Q hx el ed (c_X11_setOf hN hF (by omega)) myX11_setOf mlX11_92 dX11_set_20 ⟨_, rfl, rfl⟩ (k49 hN) (by decide) (by omega) rfl (by first | exact Nat.le_of_ble_eq_true rfl | simp [vI, vL, vR_cat, Value.category]) (fun r20 => ?_)
      refine V_istore_4 hx (by first | exact nc_I | exact nc_R | exact nc_n) dX11_set_23 ?_
      refine V_aload_0 hx dX11_set_25 ?_
      refine V_getRe hx flX11_7 dX11_set_26 rfl (k49 hN) (hF.1 49 0 50 rfl) ?_
      refine V_bipush hx dX11_set_29 (by decide) ?_
      refine V_iload_1 hx dX11_set_31 ?_
      refine V_imul hx dX11_set_32 ?_
      refine V_iload_2 hx dX11_set_33 ?_
      refine V_iadd hx dX11_set_34 ?_
      refine V_iload_3 hx dX11_set_35 ?_
      refine V_iastorex hx hF dX11_set_36 (k50 hN) (by decide) (by omega) (fx_none rfl _) (by omega) (Or.inl (by decide)) (fun hF => ?_)
      refine V_iload_4 hx dX11_set_37 ?_
      refine V_ireturn hx dX11_set_39 (by omega) (by omega) ?_
      exact ⟨_, rfl, by unfold aSet; (repeat (first | rw [cif_t (by omega)] | rw [cif_f (by omega)])); all_goals (exfalso; omega), by unfold gSet; (repeat (first | rw [cif_t (by omega)] | rw [cif_f (by omega)])); all_goals (exfalso; omega), rfl, hF⟩
    · refine V_iconst hx dX11_set_15 ?_
      refine V_ireturn hx dX11_set_16 (by omega) (by omega) ?_
      exact ⟨_, rfl, by unfold aSet; (repeat (first | rw [cif_t (by omega)] | rw [cif_f (by omega)])); all_goals (exfalso; omega), by unfold gSet; (repeat (first | rw [cif_t (by omega)] | rw [cif_f (by omega)])); all_goals (exfalso; omega), rfl, hF⟩

set_option maxRecDepth 8000 in
theorem c_X11_drop {l : Launch} {d : Dd} {z : Nat} {N : Int} {I : Mm} {s : Int} (hN : 67 ≤ N) (hF : Fx I) (hs : -2147483648 ≤ s ∧ s ≤ 2147483647) : Cn l d z yX11_drop cX11_drop 2 (some .int) 2 45 0 0 [vR z 49, vI s] N I (pI (fun r N' I' => r = aDrop I s ∧ I' = gDrop I s ∧ N' = N ∧ Fx I')) := by
  refine Cn.ofA [(vR z 49, false), (vI s, false)] [some (vR z 49), some (vI s)] RX11 (by decide) rfl ⟨cR z 49, rfl, trivial⟩ (Nat.le_of_ble_eq_true rfl) rfl (fun x ed el hx hini => ?_)
  refine V_iload_1 hx dX11_drop_0 ?_
  refine V_s1P hx el ed (c_X11_isSheet (by omega)) myX11_isSheet mlX11_140 dX11_drop_1 (by decide) (by omega) rfl (by first | exact Nat.le_of_ble_eq_true rfl | simp [vI, vL, vR_cat, Value.category]) ?_
  refine V_ifB_ne (tgt := 9) hx dX11_drop_4 (by decide) (fun h4 => ?_) (fun h4 => ?_)
  · refine V_aload_0 hx dX11_drop_9 ?_
    refine V_getRe hx flX11_34 dX11_drop_10 rfl (k49 hN) (hF.1 49 15 58 rfl) ?_
    refine V_iload_1 hx dX11_drop_13 ?_
    refine V_ialoadx hx hF dX11_drop_14 (k58 hN) (by decide) (by omega) (fun r14 => ?_)
    refine V_bipush hx dX11_drop_15 (by decide) ?_
    refine V_icmp_ne (tgt := 23) hx dX11_drop_17 (by decide) (by omega) (by omega) (fun h17 => ?_) (fun h17 => ?_)
    · refine V_aload_0 hx dX11_drop_23 ?_
      refine V_getRe hx flX11_34 dX11_drop_24 rfl (k49 hN) (hF.1 49 15 58 rfl) ?_
      refine V_iload_1 hx dX11_drop_27 ?_
      refine V_bipush hx dX11_drop_28 (by decide) ?_
      refine V_iastorex hx hF dX11_drop_30 (k58 hN) (by decide) (by omega) (fx_none rfl _) (by omega) (Or.inl (by decide)) (fun hF => ?_)
      refine V_aload_0 hx dX11_drop_31 ?_
      refine V_getRe hx flX11_37 dX11_drop_32 rfl (k49 hN) (hF.1 49 16 59 rfl) ?_
      refine V_iload_1 hx dX11_drop_35 ?_
      refine V_ialoadx hx hF dX11_drop_36 (k59 hN) (by decide) (by omega) (fun r36 => ?_)
      (try simp only [up_s, up_c, up_row, up_k, ne_eq, Int.reduceEq, not_false_eq_true] at r36 ⊢)
      refine V_ireturn hx dX11_drop_37 (by omega) (by omega) ?_
      refine ⟨_, rfl, ?_, ?_, rfl, hF⟩
      · unfold aDrop; (try rw [up_n (Or.inl (by decide))]); (repeat (first | rw [cif_t (by omega)] | rw [cif_f (by omega)])); all_goals (exfalso; omega)
      · unfold gDrop; (repeat (first | rw [cif_t (by omega)] | rw [cif_f (by omega)])); all_goals (exfalso; omega)
    · refine V_bipush hx dX11_drop_20 (by decide) ?_
      refine V_ireturn hx dX11_drop_22 (by omega) (by omega) ?_
      refine ⟨_, rfl, ?_, ?_, rfl, hF⟩
      · unfold aDrop; (try rw [up_n (Or.inl (by decide))]); (repeat (first | rw [cif_t (by omega)] | rw [cif_f (by omega)])); all_goals (exfalso; omega)
      · unfold gDrop; (repeat (first | rw [cif_t (by omega)] | rw [cif_f (by omega)])); all_goals (exfalso; omega)
  · refine V_iconst hx dX11_drop_7 ?_
    refine V_ireturn hx dX11_drop_8 (by omega) (by omega) ?_
    refine ⟨_, rfl, ?_, ?_, rfl, hF⟩
    · unfold aDrop; (try rw [up_n (Or.inl (by decide))]); (repeat (first | rw [cif_t (by omega)] | rw [cif_f (by omega)])); all_goals (exfalso; omega)
    · unfold gDrop; (repeat (first | rw [cif_t (by omega)] | rw [cif_f (by omega)])); all_goals (exfalso; omega)

set_option maxRecDepth 8000 in
theorem c_X11_item {l : Launch} {d : Dd} {z : Nat} {N : Int} {I : Mm} {s lane i v : Int} (hN : 67 ≤ N) (hF : Fx I) (hs : -2147483648 ≤ s ∧ s ≤ 2147483647) (hlane : -2147483648 ≤ lane ∧ lane ≤ 2147483647) (hi : -2147483648 ≤ i ∧ i ≤ 2147483647) (hv : -2147483648 ≤ v ∧ v ≤ 2147483647) (hs0 : ∀ q, 0 ≤ q → q ≤ 3 → 0 ≤ I 59 q ∧ I 59 q ≤ 24) : Cn l d z yX11_item cX11_item 6 (some .int) 2 45 0 0 [vR z 49, vI s, vI lane, vI i, vI v] N I (pI (fun r N' I' => r = aItem I s lane i ∧ I' = gItem I s lane i v ∧ N' = N ∧ Fx I')) := by
  refine Cn.ofA [(vR z 49, false), (vI s, false), (vI lane, false), (vI i, false), (vI v, false)] [some (vR z 49), some (vI s), some (vI lane), some (vI i), some (vI v), none] RX11 (by decide) rfl ⟨cR z 49, rfl, rfl, rfl, rfl, trivial⟩ (Nat.le_of_ble_eq_true rfl) rfl (fun x ed el hx hini => ?_)
  refine V_iload_1 hx dX11_item_0 ?_
  refine V_s1P hx el ed (c_X11_isSheet (by omega)) myX11_isSheet mlX11_140 dX11_item_1 (by decide) (by omega) rfl (by first | exact Nat.le_of_ble_eq_true rfl | simp [vI, vL, vR_cat, Value.category]) ?_
  refine V_ifB_eq (tgt := 14) hx dX11_item_4 (by decide) (fun h4 => ?_) (fun h4 => ?_)
  · refine V_iconst hx dX11_item_14 ?_
    refine V_ireturn hx dX11_item_15 (by omega) (by omega) ?_
    exact ⟨_, rfl, by unfold aItem; (repeat (first | rw [cif_t (by omega)] | rw [cif_f (by omega)])); all_goals (exfalso; omega), by unfold gItem lnv; (repeat (first | rw [cif_t (by omega)] | rw [cif_f (by omega)])); all_goals (exfalso; omega), rfl, hF⟩
  · refine V_iload_2 hx dX11_item_7 ?_
    refine V_s1P hx el ed (c_X11_isLane (by omega)) myX11_isLane mlX11_143 dX11_item_8 (by decide) (by omega) rfl (by first | exact Nat.le_of_ble_eq_true rfl | simp [vI, vL, vR_cat, Value.category]) ?_
    refine V_ifB_ne (tgt := 16) hx dX11_item_11 (by decide) (fun h11 => ?_) (fun h11 => ?_)
    · refine V_aload_0 hx dX11_item_16 ?_
      refine V_iload_1 hx dX11_item_17 ?_
      refine V_iload_2 hx dX11_item_18 ?_
      refine V_iload_3 hx dX11_item_19 ?_
      refine V_iconst hx dX11_item_20 ?_
      refine V_v4Q hx el ed (c_X11_wrong hN hF (by omega) (by omega) (by omega) (by omega)) myX11_wrong mlX11_146 dX11_item_21 ⟨_, rfl, rfl⟩ (k49 hN) (by decide) (by omega) rfl (by first | exact Nat.le_of_ble_eq_true rfl | simp [vI, vL, vR_cat, Value.category]) (fun r21 => ?_)
      refine V_istore_5 hx (by first | exact nc_I | exact nc_R | exact nc_n) dX11_item_24 ?_
      have hwr := wrF_1 (I := I) (s := s) (lane := lane) (i := i) (n := 1)
      have hq := hs0 s (by omega) (by omega)
      have hbm := bm_rng v
      refine V_iload_5 hx dX11_item_26 ?_
      refine V_iconst hx dX11_item_28 ?_
      refine V_icmp_ne (tgt := 66) hx dX11_item_29 (by decide) (by omega) (by omega) (fun h29 => ?_) (fun h29 => ?_)
      · refine V_iload_5 hx dX11_item_66 ?_
        refine V_ireturn hx dX11_item_68 (by omega) (by omega) ?_
        exact ⟨_, rfl, by unfold aItem; (repeat (first | rw [cif_t (by omega)] | rw [cif_f (by omega)])); all_goals (exfalso; omega), by unfold gItem lnv; (repeat (first | rw [cif_t (by omega)] | rw [cif_f (by omega)])); all_goals (exfalso; omega), rfl, hF⟩
      · refine V_aload_0 hx dX11_item_32 ?_
        refine V_getRe hx flX11_40 dX11_item_33 rfl (k49 hN) (hF.1 49 17 60 rfl) ?_
        refine V_bipush hx dX11_item_36 (by decide) ?_
        refine V_iload_1 hx dX11_item_38 ?_
        refine V_imul hx dX11_item_39 ?_
        refine V_iload_3 hx dX11_item_40 ?_
        refine V_iadd hx dX11_item_41 ?_
        refine V_iload_2 hx dX11_item_42 ?_
        refine V_if_ne (tgt := 52) hx dX11_item_43 (by decide) (by omega) (fun h43 => ?_) (fun h43 => ?_)
        · refine V_iload_2 hx dX11_item_52 ?_
          refine V_iconst hx dX11_item_53 ?_
          refine V_icmp_ne (tgt := 63) hx dX11_item_54 (by decide) (by omega) (by omega) (fun h54 => ?_) (fun h54 => ?_)
          · refine V_iload_4 hx dX11_item_63 ?_
            refine V_iastorex hx hF dX11_item_65 (k60 hN) (by decide) (by omega) (fx_none rfl _) (by omega) (Or.inl (by decide)) (fun hF => ?_)
            refine V_iload_5 hx dX11_item_66 ?_
            refine V_ireturn hx dX11_item_68 (by omega) (by omega) ?_
            exact ⟨_, rfl, by unfold aItem; (repeat (first | rw [cif_t (by omega)] | rw [cif_f (by omega)])); all_goals (exfalso; omega), by unfold gItem lnv; (repeat (first | rw [cif_t (by omega)] | rw [cif_f (by omega)])); all_goals (exfalso; omega), rfl, hF⟩
          · refine V_iload_4 hx dX11_item_57 ?_
            refine V_i2s hx (Int.bmod v 65536) dX11_item_59 (oI_i2s v) ?_
            refine V_goto (tgt := 65) hx dX11_item_60 (by decide) ?_
            refine V_iastorex hx hF dX11_item_65 (k60 hN) (by decide) (by omega) (fx_none rfl _) (by omega) (Or.inl (by decide)) (fun hF => ?_)
            refine V_iload_5 hx dX11_item_66 ?_
            refine V_ireturn hx dX11_item_68 (by omega) (by omega) ?_
            exact ⟨_, rfl, by unfold aItem; (repeat (first | rw [cif_t (by omega)] | rw [cif_f (by omega)])); all_goals (exfalso; omega), by unfold gItem lnv; (repeat (first | rw [cif_t (by omega)] | rw [cif_f (by omega)])); all_goals (exfalso; omega), rfl, hF⟩
        · refine V_iload_4 hx dX11_item_46 ?_
          refine V_i2b hx (Int.bmod v 256) dX11_item_48 (oI_i2b v) ?_
          refine V_goto (tgt := 65) hx dX11_item_49 (by decide) ?_
          refine V_iastorex hx hF dX11_item_65 (k60 hN) (by decide) (by omega) (fx_none rfl _) (by omega) (Or.inl (by decide)) (fun hF => ?_)
          refine V_iload_5 hx dX11_item_66 ?_
          refine V_ireturn hx dX11_item_68 (by omega) (by omega) ?_
          exact ⟨_, rfl, by unfold aItem; (repeat (first | rw [cif_t (by omega)] | rw [cif_f (by omega)])); all_goals (exfalso; omega), by unfold gItem lnv; (repeat (first | rw [cif_t (by omega)] | rw [cif_f (by omega)])); all_goals (exfalso; omega), rfl, hF⟩
    · refine V_iconst hx dX11_item_14 ?_
      refine V_ireturn hx dX11_item_15 (by omega) (by omega) ?_
      exact ⟨_, rfl, by unfold aItem; (repeat (first | rw [cif_t (by omega)] | rw [cif_f (by omega)])); all_goals (exfalso; omega), by unfold gItem lnv; (repeat (first | rw [cif_t (by omega)] | rw [cif_f (by omega)])); all_goals (exfalso; omega), rfl, hF⟩

