set_option maxRecDepth 8000 in
theorem c_X11_nameOf {l : Launch} {d : Dd} {z : Nat} {N : Int} {I : Mm} {c : Int} (hc : -2147483648 ≤ c ∧ c ≤ 2147483647) : Cn l d z yX11_nameOf cX11_nameOf 1 (some .int) 0 0 0 0 [vI c] N I (pq (nmF c) N I) := by
  refine Cn.ofA [(vI c, false)] [some (vI c)] RX11 (by decide) rfl ⟨rfl, trivial⟩ (Nat.le_of_ble_eq_true rfl) rfl (fun x ed el hx hini => ?_)
  refine V_iload_0 hx dX11_nameOf_0 ?_
  rcases (show c = 99 ∨ c = 100 ∨ c = 101 ∨ c = 102 ∨ c = 103 ∨ c = 104 ∨ c = 105 ∨ c = 106 ∨ c = 107 ∨ c = 108 ∨ c = 109 ∨ c = 110 ∨ c = 111 ∨ c = 112 ∨ c = 113 ∨ c = 114 ∨ c = 115 ∨ c = 116 ∨ c < 99 ∨ 116 < c by omega) with hsw | hsw | hsw | hsw | hsw | hsw | hsw | hsw | hsw | hsw | hsw | hsw | hsw | hsw | hsw | hsw | hsw | hsw | hsw
  · refine V_tblIn (tgt := 88) hx dX11_nameOf_1 (by omega) (by omega) (by omega) (by rw [hsw]; rfl) (by decide) ?_
    refine V_iconst hx dX11_nameOf_88 ?_
    refine V_ireturn hx dX11_nameOf_89 (by omega) (by omega) ?_
    exact ⟨by unfold nmF; (repeat (first | rw [cif_t (by omega)] | rw [cif_f (by omega)])); all_goals (exfalso; omega), rfl, rfl, by have := nmF_b c; omega⟩
  · refine V_tblIn (tgt := 94) hx dX11_nameOf_1 (by omega) (by omega) (by omega) (by rw [hsw]; rfl) (by decide) ?_
    refine V_iconst hx dX11_nameOf_94 ?_
    refine V_ireturn hx dX11_nameOf_95 (by omega) (by omega) ?_
    exact ⟨by unfold nmF; (repeat (first | rw [cif_t (by omega)] | rw [cif_f (by omega)])); all_goals (exfalso; omega), rfl, rfl, by have := nmF_b c; omega⟩
  · refine V_tblIn (tgt := 100) hx dX11_nameOf_1 (by omega) (by omega) (by omega) (by rw [hsw]; rfl) (by decide) ?_
    refine V_bipush hx dX11_nameOf_100 (by decide) ?_
    refine V_ireturn hx dX11_nameOf_102 (by omega) (by omega) ?_
    exact ⟨by unfold nmF; (repeat (first | rw [cif_t (by omega)] | rw [cif_f (by omega)])); all_goals (exfalso; omega), rfl, rfl, by have := nmF_b c; omega⟩
  · refine V_tblIn (tgt := 98) hx dX11_nameOf_1 (by omega) (by omega) (by omega) (by rw [hsw]; rfl) (by decide) ?_
    refine V_iconst hx dX11_nameOf_98 ?_
    refine V_ireturn hx dX11_nameOf_99 (by omega) (by omega) ?_
    exact ⟨by unfold nmF; (repeat (first | rw [cif_t (by omega)] | rw [cif_f (by omega)])); all_goals (exfalso; omega), rfl, rfl, by have := nmF_b c; omega⟩
  · refine V_tblIn (tgt := 100) hx dX11_nameOf_1 (by omega) (by omega) (by omega) (by rw [hsw]; rfl) (by decide) ?_
    refine V_bipush hx dX11_nameOf_100 (by decide) ?_
    refine V_ireturn hx dX11_nameOf_102 (by omega) (by omega) ?_
    exact ⟨by unfold nmF; (repeat (first | rw [cif_t (by omega)] | rw [cif_f (by omega)])); all_goals (exfalso; omega), rfl, rfl, by have := nmF_b c; omega⟩
  · refine V_tblIn (tgt := 100) hx dX11_nameOf_1 (by omega) (by omega) (by omega) (by rw [hsw]; rfl) (by decide) ?_
    refine V_bipush hx dX11_nameOf_100 (by decide) ?_
    refine V_ireturn hx dX11_nameOf_102 (by omega) (by omega) ?_
    exact ⟨by unfold nmF; (repeat (first | rw [cif_t (by omega)] | rw [cif_f (by omega)])); all_goals (exfalso; omega), rfl, rfl, by have := nmF_b c; omega⟩
  · refine V_tblIn (tgt := 100) hx dX11_nameOf_1 (by omega) (by omega) (by omega) (by rw [hsw]; rfl) (by decide) ?_
    refine V_bipush hx dX11_nameOf_100 (by decide) ?_
    refine V_ireturn hx dX11_nameOf_102 (by omega) (by omega) ?_
    exact ⟨by unfold nmF; (repeat (first | rw [cif_t (by omega)] | rw [cif_f (by omega)])); all_goals (exfalso; omega), rfl, rfl, by have := nmF_b c; omega⟩
  · refine V_tblIn (tgt := 100) hx dX11_nameOf_1 (by omega) (by omega) (by omega) (by rw [hsw]; rfl) (by decide) ?_
    refine V_bipush hx dX11_nameOf_100 (by decide) ?_
    refine V_ireturn hx dX11_nameOf_102 (by omega) (by omega) ?_
    exact ⟨by unfold nmF; (repeat (first | rw [cif_t (by omega)] | rw [cif_f (by omega)])); all_goals (exfalso; omega), rfl, rfl, by have := nmF_b c; omega⟩
  · refine V_tblIn (tgt := 100) hx dX11_nameOf_1 (by omega) (by omega) (by omega) (by rw [hsw]; rfl) (by decide) ?_
    refine V_bipush hx dX11_nameOf_100 (by decide) ?_
    refine V_ireturn hx dX11_nameOf_102 (by omega) (by omega) ?_
    exact ⟨by unfold nmF; (repeat (first | rw [cif_t (by omega)] | rw [cif_f (by omega)])); all_goals (exfalso; omega), rfl, rfl, by have := nmF_b c; omega⟩
  · refine V_tblIn (tgt := 90) hx dX11_nameOf_1 (by omega) (by omega) (by omega) (by rw [hsw]; rfl) (by decide) ?_
    refine V_iconst hx dX11_nameOf_90 ?_
    refine V_ireturn hx dX11_nameOf_91 (by omega) (by omega) ?_
    exact ⟨by unfold nmF; (repeat (first | rw [cif_t (by omega)] | rw [cif_f (by omega)])); all_goals (exfalso; omega), rfl, rfl, by have := nmF_b c; omega⟩
  · refine V_tblIn (tgt := 100) hx dX11_nameOf_1 (by omega) (by omega) (by omega) (by rw [hsw]; rfl) (by decide) ?_
    refine V_bipush hx dX11_nameOf_100 (by decide) ?_
    refine V_ireturn hx dX11_nameOf_102 (by omega) (by omega) ?_
    exact ⟨by unfold nmF; (repeat (first | rw [cif_t (by omega)] | rw [cif_f (by omega)])); all_goals (exfalso; omega), rfl, rfl, by have := nmF_b c; omega⟩
  · refine V_tblIn (tgt := 96) hx dX11_nameOf_1 (by omega) (by omega) (by omega) (by rw [hsw]; rfl) (by decide) ?_
    refine V_iconst hx dX11_nameOf_96 ?_
    refine V_ireturn hx dX11_nameOf_97 (by omega) (by omega) ?_
    exact ⟨by unfold nmF; (repeat (first | rw [cif_t (by omega)] | rw [cif_f (by omega)])); all_goals (exfalso; omega), rfl, rfl, by have := nmF_b c; omega⟩
  · refine V_tblIn (tgt := 100) hx dX11_nameOf_1 (by omega) (by omega) (by omega) (by rw [hsw]; rfl) (by decide) ?_
    refine V_bipush hx dX11_nameOf_100 (by decide) ?_
    refine V_ireturn hx dX11_nameOf_102 (by omega) (by omega) ?_
    exact ⟨by unfold nmF; (repeat (first | rw [cif_t (by omega)] | rw [cif_f (by omega)])); all_goals (exfalso; omega), rfl, rfl, by have := nmF_b c; omega⟩
  · refine V_tblIn (tgt := 100) hx dX11_nameOf_1 (by omega) (by omega) (by omega) (by rw [hsw]; rfl) (by decide) ?_
    refine V_bipush hx dX11_nameOf_100 (by decide) ?_
    refine V_ireturn hx dX11_nameOf_102 (by omega) (by omega) ?_
    exact ⟨by unfold nmF; (repeat (first | rw [cif_t (by omega)] | rw [cif_f (by omega)])); all_goals (exfalso; omega), rfl, rfl, by have := nmF_b c; omega⟩
  · refine V_tblIn (tgt := 100) hx dX11_nameOf_1 (by omega) (by omega) (by omega) (by rw [hsw]; rfl) (by decide) ?_
    refine V_bipush hx dX11_nameOf_100 (by decide) ?_
    refine V_ireturn hx dX11_nameOf_102 (by omega) (by omega) ?_
    exact ⟨by unfold nmF; (repeat (first | rw [cif_t (by omega)] | rw [cif_f (by omega)])); all_goals (exfalso; omega), rfl, rfl, by have := nmF_b c; omega⟩
  · refine V_tblIn (tgt := 100) hx dX11_nameOf_1 (by omega) (by omega) (by omega) (by rw [hsw]; rfl) (by decide) ?_
    refine V_bipush hx dX11_nameOf_100 (by decide) ?_
    refine V_ireturn hx dX11_nameOf_102 (by omega) (by omega) ?_
    exact ⟨by unfold nmF; (repeat (first | rw [cif_t (by omega)] | rw [cif_f (by omega)])); all_goals (exfalso; omega), rfl, rfl, by have := nmF_b c; omega⟩
  · refine V_tblIn (tgt := 100) hx dX11_nameOf_1 (by omega) (by omega) (by omega) (by rw [hsw]; rfl) (by decide) ?_
    refine V_bipush hx dX11_nameOf_100 (by decide) ?_
    refine V_ireturn hx dX11_nameOf_102 (by omega) (by omega) ?_
    exact ⟨by unfold nmF; (repeat (first | rw [cif_t (by omega)] | rw [cif_f (by omega)])); all_goals (exfalso; omega), rfl, rfl, by have := nmF_b c; omega⟩
  · refine V_tblIn (tgt := 92) hx dX11_nameOf_1 (by omega) (by omega) (by omega) (by rw [hsw]; rfl) (by decide) ?_
    refine V_iconst hx dX11_nameOf_92 ?_
    refine V_ireturn hx dX11_nameOf_93 (by omega) (by omega) ?_
    exact ⟨by unfold nmF; (repeat (first | rw [cif_t (by omega)] | rw [cif_f (by omega)])); all_goals (exfalso; omega), rfl, rfl, by have := nmF_b c; omega⟩
  · refine V_tblOut (tgt := 100) hx dX11_nameOf_1 (by omega) (by omega) (by decide) ?_
    refine V_bipush hx dX11_nameOf_100 (by decide) ?_
    refine V_ireturn hx dX11_nameOf_102 (by omega) (by omega) ?_
    exact ⟨by unfold nmF; (repeat (first | rw [cif_t (by omega)] | rw [cif_f (by omega)])); all_goals (exfalso; omega), rfl, rfl, by have := nmF_b c; omega⟩

set_option maxRecDepth 8000 in
theorem c_X11_next0 {l : Launch} {d : Dd} {z : Nat} {N : Int} {I : Mm} (hN : 67 ≤ N) (hF : Fx I) (ha : 0 ≤ I 49 21 ∧ I 49 21 ≤ I 49 20) (hty : I 49 20 ≤ 40) : Cn l d z yX11_next0 cX11_next0 1 (some .int) 0 0 0 0 [vR z 49] N I (pI (fun r N' I' => N' = N ∧ Fx I' ∧ I' = up I 49 21 (skf (I 62) (I 49 20) (I 49 21)) ∧ r = sgn (I 62) (I 49 20) (skf (I 62) (I 49 20) (I 49 21)) ∧ -2147483648 ≤ r ∧ r ≤ 2147483647)) := by
  refine Cn.ofA [(vR z 49, false)] [some (vR z 49)] RX11 (by decide) rfl ⟨cR z 49, trivial⟩ (Nat.le_of_ble_eq_true rfl) rfl (fun x ed el hx hini => ?_)
  refine V_mem (up I 49 21 (I 49 21)) (up_id I 49 21).symm ?_
  refine loop_inv (α := Unit) (I 49 21) (I 49 20) ha.2 (fun i _ => Fx (up I 49 21 i) ∧ ∀ q : Int, I 49 21 ≤ q → q < i → I 62 q = 32) (fun i _ => V x z _ N (up I 49 21 i) 0 0 0 [some (vR z 49)] []) ?_ ?_ () ⟨by rw [up_id]; exact hF, fun q a b => by omega⟩
  · rintro _ ⟨hF, hb⟩
    refine V_aload_0 hx dX11_next0_0 ?_
    refine V_getIx 21 hx hF flX11_166 dX11_next0_1 rfl rfl (k49 hN) (fun r1 => ?_)
    (try simp only [up_s, up_c, up_row, up_k, ne_eq, Int.reduceEq, not_false_eq_true] at r1 ⊢)
    refine V_aload_0 hx dX11_next0_4 ?_
    refine V_getIx 20 hx hF flX11_163 dX11_next0_5 rfl rfl (k49 hN) (fun r5 => ?_)
    (try simp only [up_s, up_c, up_row, up_k, ne_eq, Int.reduceEq, not_false_eq_true] at r5 ⊢)
    refine V_icmp_ge (tgt := 38) hx dX11_next0_8 (by decide) (by omega) (by omega) (fun h8 => ?_) (fun h8 => ?_)
    · refine V_aload_0 hx dX11_next0_38 ?_
      refine V_getIx 21 hx hF flX11_166 dX11_next0_39 rfl rfl (k49 hN) (fun r39 => ?_)
      (try simp only [up_s, up_c, up_row, up_k, ne_eq, Int.reduceEq, not_false_eq_true] at r39 ⊢)
      refine V_aload_0 hx dX11_next0_42 ?_
      refine V_getIx 20 hx hF flX11_163 dX11_next0_43 rfl rfl (k49 hN) (fun r43 => ?_)
      (try simp only [up_s, up_c, up_row, up_k, ne_eq, Int.reduceEq, not_false_eq_true] at r43 ⊢)
      refine V_icmp_ge (tgt := 61) hx dX11_next0_46 (by decide) (by omega) (by omega) (fun h46 => ?_) (fun h46 => ?_)
      · refine V_bipush hx dX11_next0_61 (by decide) ?_
        refine V_ireturn hx dX11_next0_63 (by omega) (by omega) ?_
        have hsk := skR_eq (t := I 62) (n := I 49 20) (a := I 49 21) (b := I 49 20) ⟨by omega, by omega, hb, by omega⟩
        refine ⟨_, rfl, rfl, hF, by rw [← hsk], ?_, by omega⟩
        unfold sgn
        rw [← hsk]
        first | rw [cif_t (by omega)] | rw [cif_f (by omega)]
        all_goals (exfalso; omega)
      · refine V_aload_0 hx dX11_next0_49 ?_
        refine V_getRe hx flX11_46 dX11_next0_50 rfl (k49 hN) (hF.1 49 19 62 rfl) ?_
        refine V_aload_0 hx dX11_next0_53 ?_
        refine V_getIx 21 hx hF flX11_166 dX11_next0_54 rfl rfl (k49 hN) (fun r54 => ?_)
        (try simp only [up_s, up_c, up_row, up_k, ne_eq, Int.reduceEq, not_false_eq_true] at r54 ⊢)
        refine V_ialoadx hx hF dX11_next0_57 (k62 hN) (by decide) (by omega) (fun r57 => ?_)
        (try simp only [up_s, up_c, up_row, up_k, ne_eq, Int.reduceEq, not_false_eq_true] at r57 ⊢)
        refine V_goto (tgt := 63) hx dX11_next0_58 (by decide) ?_
        refine V_ireturn hx dX11_next0_63 (by omega) (by omega) ?_
        have hsk := skR_eq (t := I 62) (n := I 49 20) (a := I 49 21) (b := I 49 20) ⟨by omega, by omega, hb, by omega⟩
        refine ⟨_, rfl, rfl, hF, by rw [← hsk], ?_, by omega⟩
        unfold sgn
        rw [← hsk]
        first | rw [cif_t (by omega)] | rw [cif_f (by omega)]
        all_goals (exfalso; omega)
    · exfalso; omega
  · rintro i _ hi0 hi1 ⟨hF, hb⟩ ih
    refine V_aload_0 hx dX11_next0_0 ?_
    refine V_getIx 21 hx hF flX11_166 dX11_next0_1 rfl rfl (k49 hN) (fun r1 => ?_)
    (try simp only [up_s, up_c, up_row, up_k, ne_eq, Int.reduceEq, not_false_eq_true] at r1 ⊢)
    refine V_aload_0 hx dX11_next0_4 ?_
    refine V_getIx 20 hx hF flX11_163 dX11_next0_5 rfl rfl (k49 hN) (fun r5 => ?_)
    (try simp only [up_s, up_c, up_row, up_k, ne_eq, Int.reduceEq, not_false_eq_true] at r5 ⊢)
    refine V_icmp_ge (tgt := 38) hx dX11_next0_8 (by decide) (by omega) (by omega) (fun h8 => ?_) (fun h8 => ?_)
    · refine V_aload_0 hx dX11_next0_38 ?_
      refine V_getIx 21 hx hF flX11_166 dX11_next0_39 rfl rfl (k49 hN) (fun r39 => ?_)
      (try simp only [up_s, up_c, up_row, up_k, ne_eq, Int.reduceEq, not_false_eq_true] at r39 ⊢)
      refine V_aload_0 hx dX11_next0_42 ?_
      refine V_getIx 20 hx hF flX11_163 dX11_next0_43 rfl rfl (k49 hN) (fun r43 => ?_)
      (try simp only [up_s, up_c, up_row, up_k, ne_eq, Int.reduceEq, not_false_eq_true] at r43 ⊢)
      refine V_icmp_ge (tgt := 61) hx dX11_next0_46 (by decide) (by omega) (by omega) (fun h46 => ?_) (fun h46 => ?_)
      · refine V_bipush hx dX11_next0_61 (by decide) ?_
        refine V_ireturn hx dX11_next0_63 (by omega) (by omega) ?_
        have hsk := skR_eq (t := I 62) (n := I 49 20) (a := I 49 21) (b := i) ⟨by omega, by omega, hb, by omega⟩
        refine ⟨_, rfl, rfl, hF, by rw [← hsk], ?_, by omega⟩
        unfold sgn
        rw [← hsk]
        first | rw [cif_t (by omega)] | rw [cif_f (by omega)]
        all_goals (exfalso; omega)
      · refine V_aload_0 hx dX11_next0_49 ?_
        refine V_getRe hx flX11_46 dX11_next0_50 rfl (k49 hN) (hF.1 49 19 62 rfl) ?_
        refine V_aload_0 hx dX11_next0_53 ?_
        refine V_getIx 21 hx hF flX11_166 dX11_next0_54 rfl rfl (k49 hN) (fun r54 => ?_)
        (try simp only [up_s, up_c, up_row, up_k, ne_eq, Int.reduceEq, not_false_eq_true] at r54 ⊢)
        refine V_ialoadx hx hF dX11_next0_57 (k62 hN) (by decide) (by omega) (fun r57 => ?_)
        (try simp only [up_s, up_c, up_row, up_k, ne_eq, Int.reduceEq, not_false_eq_true] at r57 ⊢)
        refine V_goto (tgt := 63) hx dX11_next0_58 (by decide) ?_
        refine V_ireturn hx dX11_next0_63 (by omega) (by omega) ?_
        have hsk := skR_eq (t := I 62) (n := I 49 20) (a := I 49 21) (b := i) ⟨by omega, by omega, hb, by omega⟩
        refine ⟨_, rfl, rfl, hF, by rw [← hsk], ?_, by omega⟩
        unfold sgn
        rw [← hsk]
        first | rw [cif_t (by omega)] | rw [cif_f (by omega)]
        all_goals (exfalso; omega)
    · refine V_aload_0 hx dX11_next0_11 ?_
      refine V_getRe hx flX11_46 dX11_next0_12 rfl (k49 hN) (hF.1 49 19 62 rfl) ?_
      refine V_aload_0 hx dX11_next0_15 ?_
      refine V_getIx 21 hx hF flX11_166 dX11_next0_16 rfl rfl (k49 hN) (fun r16 => ?_)
      (try simp only [up_s, up_c, up_row, up_k, ne_eq, Int.reduceEq, not_false_eq_true] at r16 ⊢)
      refine V_ialoadx hx hF dX11_next0_19 (k62 hN) (by decide) (by omega) (fun r19 => ?_)
      (try simp only [up_s, up_c, up_row, up_k, ne_eq, Int.reduceEq, not_false_eq_true] at r19 ⊢)
      refine V_bipush hx dX11_next0_20 (by decide) ?_
      refine V_icmp_ne (tgt := 38) hx dX11_next0_22 (by decide) (by omega) (by omega) (fun h22 => ?_) (fun h22 => ?_)
      · refine V_aload_0 hx dX11_next0_38 ?_
        refine V_getIx 21 hx hF flX11_166 dX11_next0_39 rfl rfl (k49 hN) (fun r39 => ?_)
        (try simp only [up_s, up_c, up_row, up_k, ne_eq, Int.reduceEq, not_false_eq_true] at r39 ⊢)
        refine V_aload_0 hx dX11_next0_42 ?_
        refine V_getIx 20 hx hF flX11_163 dX11_next0_43 rfl rfl (k49 hN) (fun r43 => ?_)
        (try simp only [up_s, up_c, up_row, up_k, ne_eq, Int.reduceEq, not_false_eq_true] at r43 ⊢)
        refine V_icmp_ge (tgt := 61) hx dX11_next0_46 (by decide) (by omega) (by omega) (fun h46 => ?_) (fun h46 => ?_)
        · refine V_bipush hx dX11_next0_61 (by decide) ?_
          refine V_ireturn hx dX11_next0_63 (by omega) (by omega) ?_
          have hsk := skR_eq (t := I 62) (n := I 49 20) (a := I 49 21) (b := i) ⟨by omega, by omega, hb, by omega⟩
          refine ⟨_, rfl, rfl, hF, by rw [← hsk], ?_, by omega⟩
          unfold sgn
          rw [← hsk]
          first | rw [cif_t (by omega)] | rw [cif_f (by omega)]
          all_goals (exfalso; omega)
        · refine V_aload_0 hx dX11_next0_49 ?_
          refine V_getRe hx flX11_46 dX11_next0_50 rfl (k49 hN) (hF.1 49 19 62 rfl) ?_
          refine V_aload_0 hx dX11_next0_53 ?_
          refine V_getIx 21 hx hF flX11_166 dX11_next0_54 rfl rfl (k49 hN) (fun r54 => ?_)
          (try simp only [up_s, up_c, up_row, up_k, ne_eq, Int.reduceEq, not_false_eq_true] at r54 ⊢)
          refine V_ialoadx hx hF dX11_next0_57 (k62 hN) (by decide) (by omega) (fun r57 => ?_)
          (try simp only [up_s, up_c, up_row, up_k, ne_eq, Int.reduceEq, not_false_eq_true] at r57 ⊢)
          refine V_goto (tgt := 63) hx dX11_next0_58 (by decide) ?_
          refine V_ireturn hx dX11_next0_63 (by omega) (by omega) ?_
          have hsk := skR_eq (t := I 62) (n := I 49 20) (a := I 49 21) (b := i) ⟨by omega, by omega, hb, by omega⟩
          refine ⟨_, rfl, rfl, hF, by rw [← hsk], ?_, by omega⟩
          unfold sgn
          rw [← hsk]
          first | rw [cif_t (by omega)] | rw [cif_f (by omega)]
          all_goals (exfalso; omega)
      · refine V_aload_0 hx dX11_next0_25 ?_
        refine V_dupR hx dX11_next0_26 ?_
        refine V_getIx 21 hx hF flX11_166 dX11_next0_27 rfl rfl (k49 hN) (fun r27 => ?_)
        (try simp only [up_s, up_c, up_row, up_k, ne_eq, Int.reduceEq, not_false_eq_true] at r27 ⊢)
        refine V_iconst hx dX11_next0_30 ?_
        refine V_iadd hx dX11_next0_31 ?_
        refine V_putIx 21 hx hF flX11_166 dX11_next0_32 rfl rfl (fun r h => by cases h; rfl) (k49 hN) rfl (by omega) (Or.inl (by decide)) (fun hF => ?_)
        refine V_goto (tgt := 0) hx dX11_next0_35 (by decide) ?_
        rw [up_uu] at hF ⊢
        exact ih () ⟨hF, fun q a b => by by_cases hq : q = i; (subst hq; omega); (exact hb q a (by omega))⟩

set_option maxRecDepth 8000 in
theorem c_X11_number {l : Launch} {d : Dd} {z : Nat} {N : Int} {I : Mm} (hN : 67 ≤ N) (hF : Fx I) (ha : 0 ≤ I 49 21 ∧ I 49 21 ≤ I 49 20) (hty : I 49 20 ≤ 40) (htp : ∀ q : Int, 0 ≤ q → q < I 49 20 → 32 ≤ I 62 q ∧ I 62 q ≤ 126) : Cn l d z yX11_number cX11_number 4 (some .int) 2 45 0 0 [vR z 49] N I (pI (fun r N' I' => N' = N ∧ Fx I' ∧ I' = up I 49 21 (nbr (I 62) (I 49 20) (I 49 21)).2 ∧ r = (nbr (I 62) (I 49 20) (I 49 21)).1)) := by
  refine Cn.ofA [(vR z 49, false)] [some (vR z 49), none, none, none] RX11 (by decide) rfl ⟨cR z 49, trivial⟩ (Nat.le_of_ble_eq_true rfl) rfl (fun x ed el hx hini => ?_)
  obtain ⟨s1, s2, s3, s4⟩ := skf_R (t := I 62) ha.2
  refine V_aload_0 hx dX11_number_0 ?_
  refine V_v0I hx el ed (c_X11_next0 hN hF (by omega) (by omega)) myX11_next0 mlX11_173 dX11_number_1 ⟨_, rfl, rfl⟩ (k49 hN) (by decide) (by omega) rfl (by first | exact Nat.le_of_ble_eq_true rfl | simp [vI, vL, vR_cat, Value.category]) (fun c N1 I1 ⟨eN, hF, eI, ec, rc⟩ => ?_)
  subst eN; subst eI
  refine V_istore_1 hx (by first | exact nc_I | exact nc_R | exact nc_n) dX11_number_4 ?_
  refine V_iload_1 hx dX11_number_5 ?_
  refine V_s1P hx el ed (c_X11_isDigit (by omega)) myX11_isDigit mlX11_176 dX11_number_6 (by decide) (by omega) rfl (by first | exact Nat.le_of_ble_eq_true rfl | simp [vI, vL, vR_cat, Value.category]) ?_
  refine V_ifB_ne (tgt := 14) hx dX11_number_9 (by decide) (fun h9 => ?_) (fun h9 => ?_)
  · refine V_aload_0 hx dX11_number_14 ?_
    refine V_getIx 21 hx hF flX11_166 dX11_number_15 rfl rfl (k49 hN) (fun r15 => ?_)
    (try simp only [up_s, up_c, up_row, up_k, ne_eq, Int.reduceEq, not_false_eq_true] at r15 ⊢)
    refine V_istore_2 hx (by first | exact nc_I | exact nc_R | exact nc_n) dX11_number_18 ?_
    refine V_iconst hx dX11_number_19 ?_
    refine V_istore_3 hx (by first | exact nc_I | exact nc_R | exact nc_n) dX11_number_20 ?_
    have hdig : skf (I 62) (I 49 20) (I 49 21) < I 49 20 ∧ 48 ≤ I 62 (skf (I 62) (I 49 20) (I 49 21)) ∧ I 62 (skf (I 62) (I 49 20) (I 49 21)) ≤ 57 := by
      unfold sgn at ec
      by_cases q : skf (I 62) (I 49 20) (I 49 21) < I 49 20
      · rw [cif_t q] at ec; omega
      · rw [cif_f q] at ec; omega
    have EXIT : ∀ to v : Int, dgt (I 62) (I 49 20) 40 0 (skf (I 62) (I 49 20) (I 49 21)) = (v, to) → 0 ≤ v → v ≤ 999 → skf (I 62) (I 49 20) (I 49 21) ≤ to → to ≤ I 49 20 → V x z (pI (fun r N' I' => N' = N1 ∧ Fx I' ∧ I' = up I 49 21 (nbr (I 62) (I 49 20) (I 49 21)).2 ∧ r = (nbr (I 62) (I 49 20) (I 49 21)).1)) N1 (up I 49 21 (skf (I 62) (I 49 20) (I 49 21))) 0 0 72 [some (vR z 49), some (vI c), some (vI to), some (vI v)] [] := by
      intro to v eD v0 v1 t0 t1
      refine V_iload_3 hx dX11_number_72 ?_
      refine V_bipush hx dX11_number_73 (by decide) ?_
      refine V_icmp_le (tgt := 82) hx dX11_number_75 (by decide) (by omega) (by omega) (fun h75 => ?_) (fun h75 => ?_)
      · refine V_iload_3 hx dX11_number_82 ?_
        refine V_istore_3 hx (by first | exact nc_I | exact nc_R | exact nc_n) dX11_number_83 ?_
        refine V_aload_0 hx dX11_number_84 ?_
        refine V_iload_3 hx dX11_number_85 ?_
        refine V_if_ne (tgt := 96) hx dX11_number_86 (by decide) (by omega) (fun h86 => ?_) (fun h86 => ?_)
        · refine V_iload_2 hx dX11_number_96 ?_
          refine V_putIx 21 hx hF flX11_166 dX11_number_97 rfl rfl (fun r h => by cases h; rfl) (k49 hN) rfl (by omega) (Or.inl (by decide)) (fun hF => ?_)
          refine V_iload_3 hx dX11_number_100 ?_
          refine V_ireturn hx dX11_number_101 (by omega) (by omega) ?_
          refine ⟨_, rfl, rfl, hF, ?_, ?_⟩ <;> (try rw [up_uu]) <;> unfold nbr <;> rw [cif_t hdig, eD] <;> dsimp only <;> first | rw [cif_t (by omega)] | rw [cif_f (by omega)]
          all_goals (first | omega | (exfalso; omega))
        · refine V_aload_0 hx dX11_number_89 ?_
          refine V_getIx 21 hx hF flX11_166 dX11_number_90 rfl rfl (k49 hN) (fun r90 => ?_)
          (try simp only [up_s, up_c, up_row, up_k, ne_eq, Int.reduceEq, not_false_eq_true] at r90 ⊢)
          refine V_goto (tgt := 97) hx dX11_number_93 (by decide) ?_
          refine V_putIx 21 hx hF flX11_166 dX11_number_97 rfl rfl (fun r h => by cases h; rfl) (k49 hN) rfl (by omega) (Or.inl (by decide)) (fun hF => ?_)
          refine V_iload_3 hx dX11_number_100 ?_
          refine V_ireturn hx dX11_number_101 (by omega) (by omega) ?_
          refine ⟨_, rfl, rfl, hF, ?_, ?_⟩ <;> (try rw [up_uu]) <;> unfold nbr <;> rw [cif_t hdig, eD] <;> dsimp only <;> first | rw [cif_t (by omega)] | rw [cif_f (by omega)]
          all_goals (first | omega | (exfalso; omega))
      · refine V_iconst hx dX11_number_78 ?_
        refine V_goto (tgt := 83) hx dX11_number_79 (by decide) ?_
        refine V_istore_3 hx (by first | exact nc_I | exact nc_R | exact nc_n) dX11_number_83 ?_
        refine V_aload_0 hx dX11_number_84 ?_
        refine V_iload_3 hx dX11_number_85 ?_
        refine V_if_ne (tgt := 96) hx dX11_number_86 (by decide) (by omega) (fun h => absurd h (by decide)) (fun _ => ?_)
        refine V_aload_0 hx dX11_number_89 ?_
        refine V_getIx 21 hx hF flX11_166 dX11_number_90 rfl rfl (k49 hN) (fun r90 => ?_)
        (try simp only [up_s, up_c, up_row, up_k, ne_eq, Int.reduceEq, not_false_eq_true] at r90 ⊢)
        refine V_goto (tgt := 97) hx dX11_number_93 (by decide) ?_
        refine V_putIx 21 hx hF flX11_166 dX11_number_97 rfl rfl (fun r h => by cases h; rfl) (k49 hN) rfl (by omega) (Or.inl (by decide)) (fun hF => ?_)
        refine V_iload_3 hx dX11_number_100 ?_
        refine V_ireturn hx dX11_number_101 (by omega) (by omega) ?_
        refine ⟨_, rfl, rfl, hF, ?_, ?_⟩ <;> (try rw [up_uu]) <;> unfold nbr <;> rw [cif_t hdig, eD] <;> dsimp only <;> first | rw [cif_t (by omega)] | rw [cif_f (by omega)]
        all_goals (first | omega | (exfalso; omega))
    have LOOP : ∀ (f : Nat) (to v : Int), (I 49 20 - to).toNat ≤ f → dgt (I 62) (I 49 20) f v to = dgt (I 62) (I 49 20) 40 0 (skf (I 62) (I 49 20) (I 49 21)) → 0 ≤ v → v ≤ 999 → skf (I 62) (I 49 20) (I 49 21) ≤ to → to ≤ I 49 20 → V x z (pI (fun r N' I' => N' = N1 ∧ Fx I' ∧ I' = up I 49 21 (nbr (I 62) (I 49 20) (I 49 21)).2 ∧ r = (nbr (I 62) (I 49 20) (I 49 21)).1)) N1 (up I 49 21 (skf (I 62) (I 49 20) (I 49 21))) 0 0 21 [some (vR z 49), some (vI c), some (vI to), some (vI v)] [] := by
      intro f
      induction f with
      | zero =>
        intro to v hf eD v0 v1 t0 t1
        refine V_iload_2 hx dX11_number_21 ?_
        refine V_aload_0 hx dX11_number_22 ?_
        refine V_getIx 20 hx hF flX11_163 dX11_number_23 rfl rfl (k49 hN) (fun r23 => ?_)
        (try simp only [up_s, up_c, up_row, up_k, ne_eq, Int.reduceEq, not_false_eq_true] at r23 ⊢)
        refine V_icmp_ge (tgt := 72) hx dX11_number_26 (by decide) (by omega) (by omega) (fun h26 => ?_) (fun h26 => ?_)
        · exact EXIT to v eD.symm v0 v1 t0 t1
        · exfalso; omega
      | succ f ih =>
        intro to v hf eD v0 v1 t0 t1
        rw [dgt] at eD
        refine V_iload_2 hx dX11_number_21 ?_
        refine V_aload_0 hx dX11_number_22 ?_
        refine V_getIx 20 hx hF flX11_163 dX11_number_23 rfl rfl (k49 hN) (fun r23 => ?_)
        (try simp only [up_s, up_c, up_row, up_k, ne_eq, Int.reduceEq, not_false_eq_true] at r23 ⊢)
        refine V_icmp_ge (tgt := 72) hx dX11_number_26 (by decide) (by omega) (by omega) (fun h26 => ?_) (fun h26 => ?_)
        · rw [cif_f (by omega)] at eD
          exact EXIT to v eD.symm v0 v1 t0 t1
        · refine V_aload_0 hx dX11_number_29 ?_
          refine V_getRe hx flX11_46 dX11_number_30 rfl (k49 hN) (hF.1 49 19 62 rfl) ?_
          refine V_iload_2 hx dX11_number_33 ?_
          refine V_ialoadx hx hF dX11_number_34 (k62 hN) (by decide) (by omega) (fun r34 => ?_)
          (try simp only [up_s, up_c, up_row, up_k, ne_eq, Int.reduceEq, not_false_eq_true] at r34 ⊢)
          refine V_s1P hx el ed (c_X11_isDigit (by omega)) myX11_isDigit mlX11_176 dX11_number_35 (by decide) (by omega) rfl (by first | exact Nat.le_of_ble_eq_true rfl | simp [vI, vL, vR_cat, Value.category]) ?_
          refine V_ifB_eq (tgt := 72) hx dX11_number_38 (by decide) (fun h38 => ?_) (fun h38 => ?_)
          · rw [cif_f (by omega)] at eD
            exact EXIT to v eD.symm v0 v1 t0 t1
          · refine V_iload_3 hx dX11_number_41 ?_
            refine V_bipush hx dX11_number_42 (by decide) ?_
            refine V_icmp_le (tgt := 51) hx dX11_number_44 (by decide) (by omega) (by omega) (fun h44 => ?_) (fun h44 => ?_)
            · refine V_bipush hx dX11_number_51 (by decide) ?_
              refine V_iload_3 hx dX11_number_53 ?_
              refine V_imul hx dX11_number_54 ?_
              refine V_aload_0 hx dX11_number_55 ?_
              refine V_getRe hx flX11_46 dX11_number_56 rfl (k49 hN) (hF.1 49 19 62 rfl) ?_
              refine V_iload_2 hx dX11_number_59 ?_
              refine V_ialoadx hx hF dX11_number_60 (k62 hN) (by decide) (by omega) (fun r60 => ?_)
              (try simp only [up_s, up_c, up_row, up_k, ne_eq, Int.reduceEq, not_false_eq_true] at r60 ⊢)
              refine V_iadd hx dX11_number_61 ?_
              refine V_bipush hx dX11_number_62 (by decide) ?_
              refine V_isub hx dX11_number_64 ?_
              refine V_istore_3 hx (by first | exact nc_I | exact nc_R | exact nc_n) dX11_number_65 ?_
              refine V_iinc_2 hx (by first | exact nc_I | exact nc_R | exact nc_n) dX11_number_66 ?_
              refine V_goto (tgt := 21) hx dX11_number_69 (by decide) ?_
              rw [cif_t (by omega)] at eD
              first | (rw [cif_t (by omega)] at eD; exact ih _ _ (by omega) eD (by omega) (by omega) (by omega) (by omega)) | (rw [cif_f (by omega)] at eD; exact ih _ _ (by omega) eD (by omega) (by omega) (by omega) (by omega))
            · refine V_iload_3 hx dX11_number_47 ?_
              refine V_goto (tgt := 65) hx dX11_number_48 (by decide) ?_
              refine V_istore_3 hx (by first | exact nc_I | exact nc_R | exact nc_n) dX11_number_65 ?_
              refine V_iinc_2 hx (by first | exact nc_I | exact nc_R | exact nc_n) dX11_number_66 ?_
              refine V_goto (tgt := 21) hx dX11_number_69 (by decide) ?_
              rw [cif_t (by omega)] at eD
              first | (rw [cif_t (by omega)] at eD; exact ih _ _ (by omega) eD (by omega) (by omega) (by omega) (by omega)) | (rw [cif_f (by omega)] at eD; exact ih _ _ (by omega) eD (by omega) (by omega) (by omega) (by omega))
    exact LOOP 40 _ _ (by omega) rfl (by omega) (by omega) (by omega) (by omega)
  · refine V_iconst hx dX11_number_12 ?_
    refine V_ireturn hx dX11_number_13 (by omega) (by omega) ?_
    refine ⟨_, rfl, rfl, hF, ?_, ?_⟩ <;> unfold nbr <;> rw [cif_f (by intro q; unfold sgn at ec; rw [cif_t q.1] at ec; omega)]

