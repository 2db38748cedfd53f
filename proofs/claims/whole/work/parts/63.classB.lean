set_option maxRecDepth 8000 in
theorem c_X1_at13 {l : Launch} {d : Dd} {z : Nat} {N : Int} {I : Mm} {i : Int} (hN : 67 ≤ N) (hF : Fx I) (hi : -2147483648 ≤ i ∧ i ≤ 2147483647) : Cn l d z yX1_at cX1_at 2 (some (.object "TurnPort$Word")) 0 0 0 0 [vR z 13, vI i] N I (pv (vR z (lnA I 13 14 i)) N I) := by
  refine Cn.ofA [(vR z 13, false), (vI i, false)] [some (vR z 13), some (vI i)] RX1 (by decide) rfl ⟨cR z 13, rfl, trivial⟩ (Nat.le_of_ble_eq_true rfl) rfl (fun x ed el hx hini => ?_)
  refine V_iload_1 hx dX1_at_0 ?_
  refine V_if_lt (tgt := 21) hx dX1_at_1 (by decide) (by omega) (fun h1 => ?_) (fun h1 => ?_)
  · refine V_null hx dX1_at_21 ?_
    refine V_goto (tgt := 31) hx dX1_at_22 (by decide) ?_
    refine V_areturn hx dX1_at_31 (by omega) (by omega) ?_
    exact ⟨by unfold lnA; (repeat (first | rw [cif_t (by omega)] | rw [cif_f (by omega)])); all_goals (exfalso; omega), rfl, rfl⟩
  · refine V_iload_1 hx dX1_at_4 ?_
    refine V_aload_0 hx dX1_at_5 ?_
    refine V_getIx 1 hx hF flX1_17 dX1_at_6 rfl rfl (k13 hN) (fun r6 => ?_)
    refine V_icmp_ge (tgt := 21) hx dX1_at_9 (by decide) (by omega) (by omega) (fun h9 => ?_) (fun h9 => ?_)
    · refine V_null hx dX1_at_21 ?_
      refine V_goto (tgt := 31) hx dX1_at_22 (by decide) ?_
      refine V_areturn hx dX1_at_31 (by omega) (by omega) ?_
      exact ⟨by unfold lnA; (repeat (first | rw [cif_t (by omega)] | rw [cif_f (by omega)])); all_goals (exfalso; omega), rfl, rfl⟩
    · refine V_iload_1 hx dX1_at_12 ?_
      refine V_aload_0 hx dX1_at_13 ?_
      refine V_getRe hx flX1_11 dX1_at_14 rfl (k13 hN) (hF.1 13 0 14 rfl) ?_
      refine V_alen hx dX1_at_17 (k14 hN) (by unfold tyK; omega) ?_
      refine V_icmp_lt (tgt := 25) hx dX1_at_18 (by decide) (by omega) (by omega) (fun h18 => ?_) (fun h18 => ?_)
      · refine V_aload_0 hx dX1_at_25 ?_
        refine V_getRe hx flX1_11 dX1_at_26 rfl (k13 hN) (hF.1 13 0 14 rfl) ?_
        refine V_iload_1 hx dX1_at_29 ?_
        refine V_aaload hx dX1_at_30 (k14 hN) (by unfold refK; omega) (by decide) (by omega) ?_
        refine V_areturn hx dX1_at_31 (by omega) (by omega) ?_
        exact ⟨by unfold lnA; (repeat (first | rw [cif_t (by omega)] | rw [cif_f (by omega)])); all_goals (exfalso; omega), rfl, rfl⟩
      · refine V_null hx dX1_at_21 ?_
        refine V_goto (tgt := 31) hx dX1_at_22 (by decide) ?_
        refine V_areturn hx dX1_at_31 (by omega) (by omega) ?_
        exact ⟨by unfold lnA; (repeat (first | rw [cif_t (by omega)] | rw [cif_f (by omega)])); all_goals (exfalso; omega), rfl, rfl⟩

set_option maxRecDepth 8000 in
theorem c_X1_add13 {l : Launch} {d : Dd} {z : Nat} {N : Int} {I : Mm} {b : Int} (hN : 67 ≤ N) (hF : Fx I) (hL : LnC I N 13 14) (hz : I 13 1 < 25) (hb : shk N b (0, 9)) (hbr : 67 ≤ b ∧ b ≤ 2000) : Cn l d z yX1_add cX1_add 2 none 0 0 0 0 [vR z 13, vR z b] N I (pN (fun N' I' => N' = N ∧ I' = up (up I 14 (I 13 1) b) 13 1 (I 13 1 + 1) ∧ Fx I')) := by
  refine Cn.ofA [(vR z 13, false), (vR z b, false)] [some (vR z 13), some (vR z b)] RX1 (by decide) rfl ⟨cR z 13, cR z b, trivial⟩ (Nat.le_of_ble_eq_true rfl) rfl (fun x ed el hx hini => ?_)
  have hL1 := hL.1
  have hF0 := hF
  refine V_aload_0 hx dX1_add_0 ?_
  refine V_getIx 1 hx hF flX1_17 dX1_add_1 rfl rfl (k13 hN) (fun r1 => ?_)
  refine V_aload_0 hx dX1_add_4 ?_
  refine V_getRe hx flX1_11 dX1_add_5 rfl (k13 hN) (hF.1 13 0 14 rfl) ?_
  refine V_alen hx dX1_add_8 (k14 hN) (by unfold tyK; omega) ?_
  refine V_icmp_ge (tgt := 32) hx dX1_add_9 (by decide) (by omega) (by omega) (fun h9 => ?_) (fun h9 => ?_)
  · refine V_return hx dX1_add_32 (by omega) (by omega) ?_
    first | exact ⟨rfl, rfl, rfl, hF⟩ | (exfalso; omega)
  · refine V_aload_0 hx dX1_add_12 ?_
    refine V_getRe hx flX1_11 dX1_add_13 rfl (k13 hN) (hF.1 13 0 14 rfl) ?_
    refine V_aload_0 hx dX1_add_16 ?_
    refine V_getIx 1 hx hF flX1_17 dX1_add_17 rfl rfl (k13 hN) (fun r17 => ?_)
    refine V_aload_1 hx dX1_add_20 ?_
    refine V_aastorex hx hF dX1_add_21 (k14 hN) (by unfold refK; omega) (by decide) (by omega) (Or.inr hb) (fx_none rfl _) (by omega) (Or.inl (by decide)) (fun hF => ?_)
    refine V_aload_0 hx dX1_add_22 ?_
    refine V_dupR hx dX1_add_23 ?_
    refine V_getIx 1 hx hF flX1_17 dX1_add_24 rfl rfl (k13 hN) (fun r24 => ?_)
    (try simp only [up_s, up_c, up_row, up_k, ne_eq, Int.reduceEq, not_false_eq_true] at r24 ⊢)
    refine V_iconst hx dX1_add_27 ?_
    refine V_iadd hx dX1_add_28 ?_
    refine V_putIx 1 hx hF flX1_17 dX1_add_29 rfl rfl (fun r h => by cases h; rfl) (k13 hN) rfl (by omega) (Or.inl (by decide)) (fun hF => ?_)
    refine V_return hx dX1_add_32 (by omega) (by omega) ?_
    first | exact ⟨rfl, rfl, rfl, hF⟩ | (exfalso; omega)

set_option maxRecDepth 8000 in
theorem c_X1_removeAt13 {l : Launch} {d : Dd} {z : Nat} {N : Int} {I : Mm} {i : Int} (hN : 67 ≤ N) (hF : Fx I) (hL : LnC I N 13 14) (hi : -2147483648 ≤ i ∧ i ≤ 2147483647) : Cn l d z yX1_removeAt cX1_removeAt 3 none 0 0 0 0 [vR z 13, vI i] N I (pN (fun N' I' => N' = N ∧ Fx I' ∧ I' = cif (0 ≤ i ∧ i < I 13 1) (rmL I 13 14 i) I)) := by
  refine Cn.ofA [(vR z 13, false), (vI i, false)] [some (vR z 13), some (vI i), none] RX1 (by decide) rfl ⟨cR z 13, rfl, trivial⟩ (Nat.le_of_ble_eq_true rfl) rfl (fun x ed el hx hini => ?_)
  have hL1 := hL.1
  have hF0 := hF
  refine V_iload_1 hx dX1_removeAt_0 ?_
  refine V_if_lt (tgt := 24) hx dX1_removeAt_1 (by decide) (by omega) (fun h1 => ?_) (fun h1 => ?_)
  · refine V_return hx dX1_removeAt_24 (by omega) (by omega) ?_
    exact ⟨rfl, rfl, hF, by rw [cif_f (by omega)]⟩
  · refine V_iload_1 hx dX1_removeAt_4 ?_
    refine V_aload_0 hx dX1_removeAt_5 ?_
    refine V_getIx 1 hx hF flX1_17 dX1_removeAt_6 rfl rfl (k13 hN) (fun r6 => ?_)
    refine V_icmp_ge (tgt := 24) hx dX1_removeAt_9 (by decide) (by omega) (by omega) (fun h9 => ?_) (fun h9 => ?_)
    · refine V_return hx dX1_removeAt_24 (by omega) (by omega) ?_
      exact ⟨rfl, rfl, hF, by rw [cif_f (by omega)]⟩
    · refine V_aload_0 hx dX1_removeAt_12 ?_
      refine V_getIx 1 hx hF flX1_17 dX1_removeAt_13 rfl rfl (k13 hN) (fun r13 => ?_)
      refine V_aload_0 hx dX1_removeAt_16 ?_
      refine V_getRe hx flX1_11 dX1_removeAt_17 rfl (k13 hN) (hF.1 13 0 14 rfl) ?_
      refine V_alen hx dX1_removeAt_20 (k14 hN) (by unfold tyK; omega) ?_
      refine V_icmp_le (tgt := 25) hx dX1_removeAt_21 (by decide) (by omega) (by omega) (fun h21 => ?_) (fun h21 => ?_)
      · refine V_iload_1 hx dX1_removeAt_25 ?_
        refine V_iconst hx dX1_removeAt_26 ?_
        refine V_iadd hx dX1_removeAt_27 ?_
        refine V_istore_2 hx (by first | exact nc_I | exact nc_R | exact nc_n) dX1_removeAt_28 ?_
        refine V_mem (rmK I 14 i (i + 1 - 1)) (by rw [show i + 1 - 1 = i by omega]; exact (rmK_0 I 14 i).symm) ?_
        refine loop_inv (α := Unit) (i + 1) (I 13 1) (by omega) (fun k _ => Fx (rmK I 14 i (k - 1))) (fun k _ => V x z _ N (rmK I 14 i (k - 1)) 0 0 29 [some (vR z 13), some (vI i), some (vI k)] []) ?_ ?_ () (by rw [show i + 1 - 1 = i by omega, rmK_0]; exact hF)
        · rintro _ hF
          have ec : rmK I 14 i (I 13 1 - 1) 13 1 = I 13 1 := rmK_n (by decide)
          refine V_iload_2 hx dX1_removeAt_29 ?_
          refine V_aload_0 hx dX1_removeAt_30 ?_
          refine V_getIx 1 hx hF flX1_17 dX1_removeAt_31 rfl rfl (k13 hN) (fun r31 => ?_)
          refine V_icmp_ge (tgt := 57) hx dX1_removeAt_34 (by decide) (by omega) (by omega) (fun h34 => ?_) (fun h34 => ?_)
          · refine V_aload_0 hx dX1_removeAt_57 ?_
            refine V_dupR hx dX1_removeAt_58 ?_
            refine V_getIx 1 hx hF flX1_17 dX1_removeAt_59 rfl rfl (k13 hN) (fun r59 => ?_)
            refine V_iconst hx dX1_removeAt_62 ?_
            refine V_isub hx dX1_removeAt_63 ?_
            refine V_putIx 1 hx hF flX1_17 dX1_removeAt_64 rfl rfl (fun r h => by cases h; rfl) (k13 hN) rfl (by omega) (Or.inl (by decide)) (fun hF => ?_)
            rw [ec] at *
            refine V_aload_0 hx dX1_removeAt_67 ?_
            refine V_getRe hx flX1_11 dX1_removeAt_68 rfl (k13 hN) (hF.1 13 0 14 rfl) ?_
            refine V_aload_0 hx dX1_removeAt_71 ?_
            refine V_getIx 1 hx hF flX1_17 dX1_removeAt_72 rfl rfl (k13 hN) (fun r72 => ?_)
            (try simp only [up_s, up_c, up_row, up_k, ne_eq, Int.reduceEq, not_false_eq_true] at r72 ⊢)
            refine V_null hx dX1_removeAt_75 ?_
            refine V_aastorex hx hF dX1_removeAt_76 (k14 hN) (by unfold refK; omega) (by decide) (by omega) (Or.inl (by decide)) (fx_none rfl _) (by omega) (Or.inl (by decide)) (fun hF => ?_)
            refine V_return hx dX1_removeAt_77 (by omega) (by omega) ?_
            exact ⟨rfl, rfl, hF, by rw [cif_t (by omega)]; exact rmL_eq (by decide)⟩
          · exfalso; omega
        · rintro k _ hk0 hk1 hF ih
          have ec : rmK I 14 i (k - 1) 13 1 = I 13 1 := rmK_n (by decide)
          have ek : rmK I 14 i (k - 1) 14 k = I 14 k := by unfold rmK; rw [cif_f (by omega)]
          have hen := hL.2 k (by omega) (by omega)
          have hfr := hF0.2.1 14 k
          refine V_iload_2 hx dX1_removeAt_29 ?_
          refine V_aload_0 hx dX1_removeAt_30 ?_
          refine V_getIx 1 hx hF flX1_17 dX1_removeAt_31 rfl rfl (k13 hN) (fun r31 => ?_)
          refine V_icmp_ge (tgt := 57) hx dX1_removeAt_34 (by decide) (by omega) (by omega) (fun h34 => ?_) (fun h34 => ?_)
          · exfalso; omega
          · refine V_aload_0 hx dX1_removeAt_37 ?_
            refine V_getRe hx flX1_11 dX1_removeAt_38 rfl (k13 hN) (hF.1 13 0 14 rfl) ?_
            refine V_iload_2 hx dX1_removeAt_41 ?_
            refine V_iconst hx dX1_removeAt_42 ?_
            refine V_isub hx dX1_removeAt_43 ?_
            refine V_aload_0 hx dX1_removeAt_44 ?_
            refine V_getRe hx flX1_11 dX1_removeAt_45 rfl (k13 hN) (hF.1 13 0 14 rfl) ?_
            refine V_iload_2 hx dX1_removeAt_48 ?_
            refine V_aaload hx dX1_removeAt_49 (k14 hN) (by unfold refK; omega) (by decide) (by omega) ?_
            refine V_aastorex hx hF dX1_removeAt_50 (k14 hN) (by unfold refK; omega) (by decide) (by omega) (Or.inr (wdC (by omega) (by omega))) (fx_none rfl _) (by omega) (Or.inl (by decide)) (fun hF => ?_)
            refine V_iinc_2 hx (by first | exact nc_I | exact nc_R | exact nc_n) dX1_removeAt_51 ?_
            refine V_goto (tgt := 29) hx dX1_removeAt_54 (by decide) ?_
            refine V_mem (rmK I 14 i (k + 1 - 1)) ?_ (ih () ?_)
            · rw [show k + 1 - 1 = k - 1 + 1 by omega, ← rmK_s (by omega), show k - 1 + 1 = k by omega]
            · rw [show k + 1 - 1 = k - 1 + 1 by omega, ← rmK_s (by omega), show k - 1 + 1 = k by omega]; exact hF
      · refine V_return hx dX1_removeAt_24 (by omega) (by omega) ?_
        exact ⟨rfl, rfl, hF, by rw [cif_f (by omega)]⟩

set_option maxRecDepth 8000 in
theorem c_X1_placeOf13 {l : Launch} {d : Dd} {z : Nat} {N : Int} {I : Mm} {b : Int} (hN : 67 ≤ N) (hF : Fx I) (hL : LnC I N 13 14) (hb : -1 ≤ b) : Cn l d z yX1_placeOf cX1_placeOf 3 (some .int) 0 0 0 0 [vR z 13, vR z b] N I (pq (fstA (fun i => I 14 i = b) (I 13 1).toNat) N I) := by
  refine Cn.ofA [(vR z 13, false), (vR z b, false)] [some (vR z 13), some (vR z b), none] RX1 (by decide) rfl ⟨cR z 13, cR z b, trivial⟩ (Nat.le_of_ble_eq_true rfl) rfl (fun x ed el hx hini => ?_)
  have hL1 := hL.1
  have hF0 := hF
  refine V_iconst hx dX1_placeOf_0 ?_
  refine V_istore_2 hx (by first | exact nc_I | exact nc_R | exact nc_n) dX1_placeOf_1 ?_
  refine loop_inv (α := Unit) 0 (I 13 1) (by omega) (fun i _ => ∀ j : Int, 0 ≤ j → j < i → ¬ I 14 j = b) (fun i _ => V x z _ N I 0 0 2 [some (vR z 13), some (vR z b), some (vI i)] []) ?_ ?_ () (fun j a b => by omega)
  · rintro _ hJ
    refine V_iload_2 hx dX1_placeOf_2 ?_
    refine V_aload_0 hx dX1_placeOf_3 ?_
    refine V_getIx 1 hx hF flX1_17 dX1_placeOf_4 rfl rfl (k13 hN) (fun r4 => ?_)
    refine V_icmp_ge (tgt := 28) hx dX1_placeOf_7 (by decide) (by omega) (by omega) (fun h7 => ?_) (fun h7 => ?_)
    · refine V_iconst hx dX1_placeOf_28 ?_
      refine V_ireturn hx dX1_placeOf_29 (by omega) (by omega) ?_
      exact ⟨by rw [fstA_none (p := fun i => I 14 i = b) (n := (I 13 1).toNat) (fun j j0 j1 => hJ j j0 (by omega))], rfl, rfl, by rw [fstA_none (p := fun i => I 14 i = b) (n := (I 13 1).toNat) (fun j j0 j1 => hJ j j0 (by omega))]; omega⟩
    · exfalso; omega
  · rintro i _ hi0 hi1 hJ ih
    have hen := hL.2 i hi0 hi1
    refine V_iload_2 hx dX1_placeOf_2 ?_
    refine V_aload_0 hx dX1_placeOf_3 ?_
    refine V_getIx 1 hx hF flX1_17 dX1_placeOf_4 rfl rfl (k13 hN) (fun r4 => ?_)
    refine V_icmp_ge (tgt := 28) hx dX1_placeOf_7 (by decide) (by omega) (by omega) (fun h7 => ?_) (fun h7 => ?_)
    · exfalso; omega
    · refine V_aload_0 hx dX1_placeOf_10 ?_
      refine V_getRe hx flX1_11 dX1_placeOf_11 rfl (k13 hN) (hF.1 13 0 14 rfl) ?_
      refine V_iload_2 hx dX1_placeOf_14 ?_
      refine V_aaload hx dX1_placeOf_15 (k14 hN) (by unfold refK; omega) (by decide) (by omega) ?_
      refine V_aload_1 hx dX1_placeOf_16 ?_
      refine V_acmp_ne (tgt := 22) hx dX1_placeOf_17 (by decide) (by omega) (by omega) (fun h17 => ?_) (fun h17 => ?_)
      · refine V_iinc_2 hx (by first | exact nc_I | exact nc_R | exact nc_n) dX1_placeOf_22 ?_
        refine V_goto (tgt := 2) hx dX1_placeOf_25 (by decide) ?_
        exact ih () (fun j j0 j1 => by by_cases hj : j = i; (subst hj; assumption); exact hJ j j0 (by omega))
      · refine V_iload_2 hx dX1_placeOf_20 ?_
        refine V_ireturn hx dX1_placeOf_21 (by omega) (by omega) ?_
        have hf := fstA_some (p := fun i => I 14 i = b) (n := (I 13 1).toNat) hi0 (by omega) hJ (by omega)
        exact ⟨by rw [hf], rfl, rfl, by rw [hf]; omega⟩

set_option maxRecDepth 8000 in
theorem c_X1_countOf13 {l : Launch} {d : Dd} {z : Nat} {N : Int} {I : Mm} {s : Int} (hN : 67 ≤ N) (hF : Fx I) (hL : LnC I N 13 14) (hs : -2147483648 ≤ s ∧ s ≤ 2147483647) : Cn l d z yX1_countOf cX1_countOf 4 (some .int) 0 0 0 0 [vR z 13, vI s] N I (pq (cntW (fun i => I (I 14 i) 1 = s) (I 13 1).toNat) N I) := by
  refine Cn.ofA [(vR z 13, false), (vI s, false)] [some (vR z 13), some (vI s), none, none] RX1 (by decide) rfl ⟨cR z 13, rfl, trivial⟩ (Nat.le_of_ble_eq_true rfl) rfl (fun x ed el hx hini => ?_)
  have hL1 := hL.1
  have hF0 := hF
  refine V_iconst hx dX1_countOf_0 ?_
  refine V_istore_2 hx (by first | exact nc_I | exact nc_R | exact nc_n) dX1_countOf_1 ?_
  refine V_iconst hx dX1_countOf_2 ?_
  refine V_istore_3 hx (by first | exact nc_I | exact nc_R | exact nc_n) dX1_countOf_3 ?_
  refine loop_fld (α := Int) (fun acc i => acc + cif (I (I 14 i) 1 = s) 1 0) 0 (I 13 1) hL.1.1 (fun i acc => V x z _ N I 0 0 4 [some (vR z 13), some (vI s), some (vI acc), some (vI i)] []) ?_ ?_
  · refine V_iload_3 hx dX1_countOf_4 ?_
    refine V_aload_0 hx dX1_countOf_5 ?_
    refine V_getIx 1 hx hF flX1_17 dX1_countOf_6 rfl rfl (k13 hN) (fun r6 => ?_)
    refine V_icmp_ge (tgt := 39) hx dX1_countOf_9 (by decide) (by omega) (by omega) (fun h9 => ?_) (fun h9 => ?_)
    · refine V_iload_2 hx dX1_countOf_39 ?_
      refine V_ireturn hx dX1_countOf_40 (by omega) (by omega) ?_
      exact ⟨rfl, rfl, rfl, by have := cntW_b (fun i => I (I 14 i) 1 = s) (I 13 1).toNat; omega⟩
    · exfalso; omega
  · intro i hi0 hi1 ih
    generalize fld _ _ _ = acc at ih ⊢
    have hen := hL.2 i hi0 hi1
    refine V_iload_3 hx dX1_countOf_4 ?_
    refine V_aload_0 hx dX1_countOf_5 ?_
    refine V_getIx 1 hx hF flX1_17 dX1_countOf_6 rfl rfl (k13 hN) (fun r6 => ?_)
    refine V_icmp_ge (tgt := 39) hx dX1_countOf_9 (by decide) (by omega) (by omega) (fun h9 => ?_) (fun h9 => ?_)
    · exfalso; omega
    · refine V_iload_2 hx dX1_countOf_12 ?_
      refine V_aload_0 hx dX1_countOf_13 ?_
      refine V_getRe hx flX1_11 dX1_countOf_14 rfl (k13 hN) (hF.1 13 0 14 rfl) ?_
      refine V_iload_3 hx dX1_countOf_17 ?_
      refine V_aaload hx dX1_countOf_18 (k14 hN) (by unfold refK; omega) (by decide) (by omega) ?_
      refine V_getIx 1 hx hF flX1_21 dX1_countOf_19 rfl rfl (wdC hen.1 hen.2) (fun r19 => ?_)
      refine V_iload_1 hx dX1_countOf_22 ?_
      refine V_icmp_ne (tgt := 30) hx dX1_countOf_23 (by decide) (by omega) (by omega) (fun h23 => ?_) (fun h23 => ?_)
      · refine V_iconst hx dX1_countOf_30 ?_
        refine V_iadd hx dX1_countOf_31 ?_
        refine V_istore_2 hx (by first | exact nc_I | exact nc_R | exact nc_n) dX1_countOf_32 ?_
        refine V_iinc_3 hx (by first | exact nc_I | exact nc_R | exact nc_n) dX1_countOf_33 ?_
        refine V_goto (tgt := 4) hx dX1_countOf_36 (by decide) ?_
        first | exact ih | (rw [cif_t (by first | omega | simp_all)] at ih; exact ih) | (rw [cif_f (by first | omega | simp_all)] at ih; exact ih)
      · refine V_iconst hx dX1_countOf_26 ?_
        refine V_goto (tgt := 31) hx dX1_countOf_27 (by decide) ?_
        refine V_iadd hx dX1_countOf_31 ?_
        refine V_istore_2 hx (by first | exact nc_I | exact nc_R | exact nc_n) dX1_countOf_32 ?_
        refine V_iinc_3 hx (by first | exact nc_I | exact nc_R | exact nc_n) dX1_countOf_33 ?_
        refine V_goto (tgt := 4) hx dX1_countOf_36 (by decide) ?_
        first | exact ih | (rw [cif_t (by first | omega | simp_all)] at ih; exact ih) | (rw [cif_f (by first | omega | simp_all)] at ih; exact ih)

set_option maxRecDepth 8000 in
theorem c_X1_at15 {l : Launch} {d : Dd} {z : Nat} {N : Int} {I : Mm} {i : Int} (hN : 67 ≤ N) (hF : Fx I) (hi : -2147483648 ≤ i ∧ i ≤ 2147483647) : Cn l d z yX1_at cX1_at 2 (some (.object "TurnPort$Word")) 0 0 0 0 [vR z 15, vI i] N I (pv (vR z (lnA I 15 16 i)) N I) := by
  refine Cn.ofA [(vR z 15, false), (vI i, false)] [some (vR z 15), some (vI i)] RX1 (by decide) rfl ⟨cR z 15, rfl, trivial⟩ (Nat.le_of_ble_eq_true rfl) rfl (fun x ed el hx hini => ?_)
  refine V_iload_1 hx dX1_at_0 ?_
  refine V_if_lt (tgt := 21) hx dX1_at_1 (by decide) (by omega) (fun h1 => ?_) (fun h1 => ?_)
  · refine V_null hx dX1_at_21 ?_
    refine V_goto (tgt := 31) hx dX1_at_22 (by decide) ?_
    refine V_areturn hx dX1_at_31 (by omega) (by omega) ?_
    exact ⟨by unfold lnA; (repeat (first | rw [cif_t (by omega)] | rw [cif_f (by omega)])); all_goals (exfalso; omega), rfl, rfl⟩
  · refine V_iload_1 hx dX1_at_4 ?_
    refine V_aload_0 hx dX1_at_5 ?_
    refine V_getIx 1 hx hF flX1_17 dX1_at_6 rfl rfl (k15 hN) (fun r6 => ?_)
    refine V_icmp_ge (tgt := 21) hx dX1_at_9 (by decide) (by omega) (by omega) (fun h9 => ?_) (fun h9 => ?_)
    · refine V_null hx dX1_at_21 ?_
      refine V_goto (tgt := 31) hx dX1_at_22 (by decide) ?_
      refine V_areturn hx dX1_at_31 (by omega) (by omega) ?_
      exact ⟨by unfold lnA; (repeat (first | rw [cif_t (by omega)] | rw [cif_f (by omega)])); all_goals (exfalso; omega), rfl, rfl⟩
    · refine V_iload_1 hx dX1_at_12 ?_
      refine V_aload_0 hx dX1_at_13 ?_
      refine V_getRe hx flX1_11 dX1_at_14 rfl (k15 hN) (hF.1 15 0 16 rfl) ?_
      refine V_alen hx dX1_at_17 (k16 hN) (by unfold tyK; omega) ?_
      refine V_icmp_lt (tgt := 25) hx dX1_at_18 (by decide) (by omega) (by omega) (fun h18 => ?_) (fun h18 => ?_)
      · refine V_aload_0 hx dX1_at_25 ?_
        refine V_getRe hx flX1_11 dX1_at_26 rfl (k15 hN) (hF.1 15 0 16 rfl) ?_
        refine V_iload_1 hx dX1_at_29 ?_
        refine V_aaload hx dX1_at_30 (k16 hN) (by unfold refK; omega) (by decide) (by omega) ?_
        refine V_areturn hx dX1_at_31 (by omega) (by omega) ?_
        exact ⟨by unfold lnA; (repeat (first | rw [cif_t (by omega)] | rw [cif_f (by omega)])); all_goals (exfalso; omega), rfl, rfl⟩
      · refine V_null hx dX1_at_21 ?_
        refine V_goto (tgt := 31) hx dX1_at_22 (by decide) ?_
        refine V_areturn hx dX1_at_31 (by omega) (by omega) ?_
        exact ⟨by unfold lnA; (repeat (first | rw [cif_t (by omega)] | rw [cif_f (by omega)])); all_goals (exfalso; omega), rfl, rfl⟩

set_option maxRecDepth 8000 in
theorem c_X1_add15 {l : Launch} {d : Dd} {z : Nat} {N : Int} {I : Mm} {b : Int} (hN : 67 ≤ N) (hF : Fx I) (hL : LnC I N 15 16) (hz : I 15 1 < 25) (hb : shk N b (0, 9)) (hbr : 67 ≤ b ∧ b ≤ 2000) : Cn l d z yX1_add cX1_add 2 none 0 0 0 0 [vR z 15, vR z b] N I (pN (fun N' I' => N' = N ∧ I' = up (up I 16 (I 15 1) b) 15 1 (I 15 1 + 1) ∧ Fx I')) := by
  refine Cn.ofA [(vR z 15, false), (vR z b, false)] [some (vR z 15), some (vR z b)] RX1 (by decide) rfl ⟨cR z 15, cR z b, trivial⟩ (Nat.le_of_ble_eq_true rfl) rfl (fun x ed el hx hini => ?_)
  have hL1 := hL.1
  have hF0 := hF
  refine V_aload_0 hx dX1_add_0 ?_
  refine V_getIx 1 hx hF flX1_17 dX1_add_1 rfl rfl (k15 hN) (fun r1 => ?_)
  refine V_aload_0 hx dX1_add_4 ?_
  refine V_getRe hx flX1_11 dX1_add_5 rfl (k15 hN) (hF.1 15 0 16 rfl) ?_
  refine V_alen hx dX1_add_8 (k16 hN) (by unfold tyK; omega) ?_
  refine V_icmp_ge (tgt := 32) hx dX1_add_9 (by decide) (by omega) (by omega) (fun h9 => ?_) (fun h9 => ?_)
  · refine V_return hx dX1_add_32 (by omega) (by omega) ?_
    first | exact ⟨rfl, rfl, rfl, hF⟩ | (exfalso; omega)
  · refine V_aload_0 hx dX1_add_12 ?_
    refine V_getRe hx flX1_11 dX1_add_13 rfl (k15 hN) (hF.1 15 0 16 rfl) ?_
    refine V_aload_0 hx dX1_add_16 ?_
    refine V_getIx 1 hx hF flX1_17 dX1_add_17 rfl rfl (k15 hN) (fun r17 => ?_)
    refine V_aload_1 hx dX1_add_20 ?_
    refine V_aastorex hx hF dX1_add_21 (k16 hN) (by unfold refK; omega) (by decide) (by omega) (Or.inr hb) (fx_none rfl _) (by omega) (Or.inl (by decide)) (fun hF => ?_)
    refine V_aload_0 hx dX1_add_22 ?_
    refine V_dupR hx dX1_add_23 ?_
    refine V_getIx 1 hx hF flX1_17 dX1_add_24 rfl rfl (k15 hN) (fun r24 => ?_)
    (try simp only [up_s, up_c, up_row, up_k, ne_eq, Int.reduceEq, not_false_eq_true] at r24 ⊢)
    refine V_iconst hx dX1_add_27 ?_
    refine V_iadd hx dX1_add_28 ?_
    refine V_putIx 1 hx hF flX1_17 dX1_add_29 rfl rfl (fun r h => by cases h; rfl) (k15 hN) rfl (by omega) (Or.inl (by decide)) (fun hF => ?_)
    refine V_return hx dX1_add_32 (by omega) (by omega) ?_
    first | exact ⟨rfl, rfl, rfl, hF⟩ | (exfalso; omega)

set_option maxRecDepth 8000 in
theorem c_X1_removeAt15 {l : Launch} {d : Dd} {z : Nat} {N : Int} {I : Mm} {i : Int} (hN : 67 ≤ N) (hF : Fx I) (hL : LnC I N 15 16) (hi : -2147483648 ≤ i ∧ i ≤ 2147483647) : Cn l d z yX1_removeAt cX1_removeAt 3 none 0 0 0 0 [vR z 15, vI i] N I (pN (fun N' I' => N' = N ∧ Fx I' ∧ I' = cif (0 ≤ i ∧ i < I 15 1) (rmL I 15 16 i) I)) := by
  refine Cn.ofA [(vR z 15, false), (vI i, false)] [some (vR z 15), some (vI i), none] RX1 (by decide) rfl ⟨cR z 15, rfl, trivial⟩ (Nat.le_of_ble_eq_true rfl) rfl (fun x ed el hx hini => ?_)
  have hL1 := hL.1
  have hF0 := hF
  refine V_iload_1 hx dX1_removeAt_0 ?_
  refine V_if_lt (tgt := 24) hx dX1_removeAt_1 (by decide) (by omega) (fun h1 => ?_) (fun h1 => ?_)
  · refine V_return hx dX1_removeAt_24 (by omega) (by omega) ?_
    exact ⟨rfl, rfl, hF, by rw [cif_f (by omega)]⟩
  · refine V_iload_1 hx dX1_removeAt_4 ?_
    refine V_aload_0 hx dX1_removeAt_5 ?_
    refine V_getIx 1 hx hF flX1_17 dX1_removeAt_6 rfl rfl (k15 hN) (fun r6 => ?_)
    refine V_icmp_ge (tgt := 24) hx dX1_removeAt_9 (by decide) (by omega) (by omega) (fun h9 => ?_) (fun h9 => ?_)
    · refine V_return hx dX1_removeAt_24 (by omega) (by omega) ?_
      exact ⟨rfl, rfl, hF, by rw [cif_f (by omega)]⟩
    · refine V_aload_0 hx dX1_removeAt_12 ?_
      refine V_getIx 1 hx hF flX1_17 dX1_removeAt_13 rfl rfl (k15 hN) (fun r13 => ?_)
      refine V_aload_0 hx dX1_removeAt_16 ?_
      refine V_getRe hx flX1_11 dX1_removeAt_17 rfl (k15 hN) (hF.1 15 0 16 rfl) ?_
      refine V_alen hx dX1_removeAt_20 (k16 hN) (by unfold tyK; omega) ?_
      refine V_icmp_le (tgt := 25) hx dX1_removeAt_21 (by decide) (by omega) (by omega) (fun h21 => ?_) (fun h21 => ?_)
      · refine V_iload_1 hx dX1_removeAt_25 ?_
        refine V_iconst hx dX1_removeAt_26 ?_
        refine V_iadd hx dX1_removeAt_27 ?_
        refine V_istore_2 hx (by first | exact nc_I | exact nc_R | exact nc_n) dX1_removeAt_28 ?_
        refine V_mem (rmK I 16 i (i + 1 - 1)) (by rw [show i + 1 - 1 = i by omega]; exact (rmK_0 I 16 i).symm) ?_
        refine loop_inv (α := Unit) (i + 1) (I 15 1) (by omega) (fun k _ => Fx (rmK I 16 i (k - 1))) (fun k _ => V x z _ N (rmK I 16 i (k - 1)) 0 0 29 [some (vR z 15), some (vI i), some (vI k)] []) ?_ ?_ () (by rw [show i + 1 - 1 = i by omega, rmK_0]; exact hF)
        · rintro _ hF
          have ec : rmK I 16 i (I 15 1 - 1) 15 1 = I 15 1 := rmK_n (by decide)
          refine V_iload_2 hx dX1_removeAt_29 ?_
          refine V_aload_0 hx dX1_removeAt_30 ?_
          refine V_getIx 1 hx hF flX1_17 dX1_removeAt_31 rfl rfl (k15 hN) (fun r31 => ?_)
          refine V_icmp_ge (tgt := 57) hx dX1_removeAt_34 (by decide) (by omega) (by omega) (fun h34 => ?_) (fun h34 => ?_)
          · refine V_aload_0 hx dX1_removeAt_57 ?_
            refine V_dupR hx dX1_removeAt_58 ?_
            refine V_getIx 1 hx hF flX1_17 dX1_removeAt_59 rfl rfl (k15 hN) (fun r59 => ?_)
            refine V_iconst hx dX1_removeAt_62 ?_
            refine V_isub hx dX1_removeAt_63 ?_
            refine V_putIx 1 hx hF flX1_17 dX1_removeAt_64 rfl rfl (fun r h => by cases h; rfl) (k15 hN) rfl (by omega) (Or.inl (by decide)) (fun hF => ?_)
            rw [ec] at *
            refine V_aload_0 hx dX1_removeAt_67 ?_
            refine V_getRe hx flX1_11 dX1_removeAt_68 rfl (k15 hN) (hF.1 15 0 16 rfl) ?_
            refine V_aload_0 hx dX1_removeAt_71 ?_
            refine V_getIx 1 hx hF flX1_17 dX1_removeAt_72 rfl rfl (k15 hN) (fun r72 => ?_)
            (try simp only [up_s, up_c, up_row, up_k, ne_eq, Int.reduceEq, not_false_eq_true] at r72 ⊢)
            refine V_null hx dX1_removeAt_75 ?_
            refine V_aastorex hx hF dX1_removeAt_76 (k16 hN) (by unfold refK; omega) (by decide) (by omega) (Or.inl (by decide)) (fx_none rfl _) (by omega) (Or.inl (by decide)) (fun hF => ?_)
            refine V_return hx dX1_removeAt_77 (by omega) (by omega) ?_
            exact ⟨rfl, rfl, hF, by rw [cif_t (by omega)]; exact rmL_eq (by decide)⟩
          · exfalso; omega
        · rintro k _ hk0 hk1 hF ih
          have ec : rmK I 16 i (k - 1) 15 1 = I 15 1 := rmK_n (by decide)
          have ek : rmK I 16 i (k - 1) 16 k = I 16 k := by unfold rmK; rw [cif_f (by omega)]
          have hen := hL.2 k (by omega) (by omega)
          have hfr := hF0.2.1 16 k
          refine V_iload_2 hx dX1_removeAt_29 ?_
          refine V_aload_0 hx dX1_removeAt_30 ?_
          refine V_getIx 1 hx hF flX1_17 dX1_removeAt_31 rfl rfl (k15 hN) (fun r31 => ?_)
          refine V_icmp_ge (tgt := 57) hx dX1_removeAt_34 (by decide) (by omega) (by omega) (fun h34 => ?_) (fun h34 => ?_)
          · exfalso; omega
          · refine V_aload_0 hx dX1_removeAt_37 ?_
            refine V_getRe hx flX1_11 dX1_removeAt_38 rfl (k15 hN) (hF.1 15 0 16 rfl) ?_
            refine V_iload_2 hx dX1_removeAt_41 ?_
            refine V_iconst hx dX1_removeAt_42 ?_
            refine V_isub hx dX1_removeAt_43 ?_
            refine V_aload_0 hx dX1_removeAt_44 ?_
            refine V_getRe hx flX1_11 dX1_removeAt_45 rfl (k15 hN) (hF.1 15 0 16 rfl) ?_
            refine V_iload_2 hx dX1_removeAt_48 ?_
            refine V_aaload hx dX1_removeAt_49 (k16 hN) (by unfold refK; omega) (by decide) (by omega) ?_
            refine V_aastorex hx hF dX1_removeAt_50 (k16 hN) (by unfold refK; omega) (by decide) (by omega) (Or.inr (wdC (by omega) (by omega))) (fx_none rfl _) (by omega) (Or.inl (by decide)) (fun hF => ?_)
            refine V_iinc_2 hx (by first | exact nc_I | exact nc_R | exact nc_n) dX1_removeAt_51 ?_
            refine V_goto (tgt := 29) hx dX1_removeAt_54 (by decide) ?_
            refine V_mem (rmK I 16 i (k + 1 - 1)) ?_ (ih () ?_)
            · rw [show k + 1 - 1 = k - 1 + 1 by omega, ← rmK_s (by omega), show k - 1 + 1 = k by omega]
            · rw [show k + 1 - 1 = k - 1 + 1 by omega, ← rmK_s (by omega), show k - 1 + 1 = k by omega]; exact hF
      · refine V_return hx dX1_removeAt_24 (by omega) (by omega) ?_
        exact ⟨rfl, rfl, hF, by rw [cif_f (by omega)]⟩

set_option maxRecDepth 8000 in
theorem c_X1_placeOf15 {l : Launch} {d : Dd} {z : Nat} {N : Int} {I : Mm} {b : Int} (hN : 67 ≤ N) (hF : Fx I) (hL : LnC I N 15 16) (hb : -1 ≤ b) : Cn l d z yX1_placeOf cX1_placeOf 3 (some .int) 0 0 0 0 [vR z 15, vR z b] N I (pq (fstA (fun i => I 16 i = b) (I 15 1).toNat) N I) := by
  refine Cn.ofA [(vR z 15, false), (vR z b, false)] [some (vR z 15), some (vR z b), none] RX1 (by decide) rfl ⟨cR z 15, cR z b, trivial⟩ (Nat.le_of_ble_eq_true rfl) rfl (fun x ed el hx hini => ?_)
  have hL1 := hL.1
  have hF0 := hF
  refine V_iconst hx dX1_placeOf_0 ?_
  refine V_istore_2 hx (by first | exact nc_I | exact nc_R | exact nc_n) dX1_placeOf_1 ?_
  refine loop_inv (α := Unit) 0 (I 15 1) (by omega) (fun i _ => ∀ j : Int, 0 ≤ j → j < i → ¬ I 16 j = b) (fun i _ => V x z _ N I 0 0 2 [some (vR z 15), some (vR z b), some (vI i)] []) ?_ ?_ () (fun j a b => by omega)
  · rintro _ hJ
    refine V_iload_2 hx dX1_placeOf_2 ?_
    refine V_aload_0 hx dX1_placeOf_3 ?_
    refine V_getIx 1 hx hF flX1_17 dX1_placeOf_4 rfl rfl (k15 hN) (fun r4 => ?_)
    refine V_icmp_ge (tgt := 28) hx dX1_placeOf_7 (by decide) (by omega) (by omega) (fun h7 => ?_) (fun h7 => ?_)
    · refine V_iconst hx dX1_placeOf_28 ?_
      refine V_ireturn hx dX1_placeOf_29 (by omega) (by omega) ?_
      exact ⟨by rw [fstA_none (p := fun i => I 16 i = b) (n := (I 15 1).toNat) (fun j j0 j1 => hJ j j0 (by omega))], rfl, rfl, by rw [fstA_none (p := fun i => I 16 i = b) (n := (I 15 1).toNat) (fun j j0 j1 => hJ j j0 (by omega))]; omega⟩
    · exfalso; omega
  · rintro i _ hi0 hi1 hJ ih
    have hen := hL.2 i hi0 hi1
    refine V_iload_2 hx dX1_placeOf_2 ?_
    refine V_aload_0 hx dX1_placeOf_3 ?_
    refine V_getIx 1 hx hF flX1_17 dX1_placeOf_4 rfl rfl (k15 hN) (fun r4 => ?_)
    refine V_icmp_ge (tgt := 28) hx dX1_placeOf_7 (by decide) (by omega) (by omega) (fun h7 => ?_) (fun h7 => ?_)
    · exfalso; omega
    · refine V_aload_0 hx dX1_placeOf_10 ?_
      refine V_getRe hx flX1_11 dX1_placeOf_11 rfl (k15 hN) (hF.1 15 0 16 rfl) ?_
      refine V_iload_2 hx dX1_placeOf_14 ?_
      refine V_aaload hx dX1_placeOf_15 (k16 hN) (by unfold refK; omega) (by decide) (by omega) ?_
      refine V_aload_1 hx dX1_placeOf_16 ?_
      refine V_acmp_ne (tgt := 22) hx dX1_placeOf_17 (by decide) (by omega) (by omega) (fun h17 => ?_) (fun h17 => ?_)
      · refine V_iinc_2 hx (by first | exact nc_I | exact nc_R | exact nc_n) dX1_placeOf_22 ?_
        refine V_goto (tgt := 2) hx dX1_placeOf_25 (by decide) ?_
        exact ih () (fun j j0 j1 => by by_cases hj : j = i; (subst hj; assumption); exact hJ j j0 (by omega))
      · refine V_iload_2 hx dX1_placeOf_20 ?_
        refine V_ireturn hx dX1_placeOf_21 (by omega) (by omega) ?_
        have hf := fstA_some (p := fun i => I 16 i = b) (n := (I 15 1).toNat) hi0 (by omega) hJ (by omega)
        exact ⟨by rw [hf], rfl, rfl, by rw [hf]; omega⟩

set_option maxRecDepth 8000 in
theorem c_X1_countOf15 {l : Launch} {d : Dd} {z : Nat} {N : Int} {I : Mm} {s : Int} (hN : 67 ≤ N) (hF : Fx I) (hL : LnC I N 15 16) (hs : -2147483648 ≤ s ∧ s ≤ 2147483647) : Cn l d z yX1_countOf cX1_countOf 4 (some .int) 0 0 0 0 [vR z 15, vI s] N I (pq (cntW (fun i => I (I 16 i) 1 = s) (I 15 1).toNat) N I) := by
  refine Cn.ofA [(vR z 15, false), (vI s, false)] [some (vR z 15), some (vI s), none, none] RX1 (by decide) rfl ⟨cR z 15, rfl, trivial⟩ (Nat.le_of_ble_eq_true rfl) rfl (fun x ed el hx hini => ?_)
  have hL1 := hL.1
  have hF0 := hF
  refine V_iconst hx dX1_countOf_0 ?_
  refine V_istore_2 hx (by first | exact nc_I | exact nc_R | exact nc_n) dX1_countOf_1 ?_
  refine V_iconst hx dX1_countOf_2 ?_
  refine V_istore_3 hx (by first | exact nc_I | exact nc_R | exact nc_n) dX1_countOf_3 ?_
  refine loop_fld (α := Int) (fun acc i => acc + cif (I (I 16 i) 1 = s) 1 0) 0 (I 15 1) hL.1.1 (fun i acc => V x z _ N I 0 0 4 [some (vR z 15), some (vI s), some (vI acc), some (vI i)] []) ?_ ?_
  · refine V_iload_3 hx dX1_countOf_4 ?_
    refine V_aload_0 hx dX1_countOf_5 ?_
    refine V_getIx 1 hx hF flX1_17 dX1_countOf_6 rfl rfl (k15 hN) (fun r6 => ?_)
    refine V_icmp_ge (tgt := 39) hx dX1_countOf_9 (by decide) (by omega) (by omega) (fun h9 => ?_) (fun h9 => ?_)
    · refine V_iload_2 hx dX1_countOf_39 ?_
      refine V_ireturn hx dX1_countOf_40 (by omega) (by omega) ?_
      exact ⟨rfl, rfl, rfl, by have := cntW_b (fun i => I (I 16 i) 1 = s) (I 15 1).toNat; omega⟩
    · exfalso; omega
  · intro i hi0 hi1 ih
    generalize fld _ _ _ = acc at ih ⊢
    have hen := hL.2 i hi0 hi1
    refine V_iload_3 hx dX1_countOf_4 ?_
    refine V_aload_0 hx dX1_countOf_5 ?_
    refine V_getIx 1 hx hF flX1_17 dX1_countOf_6 rfl rfl (k15 hN) (fun r6 => ?_)
    refine V_icmp_ge (tgt := 39) hx dX1_countOf_9 (by decide) (by omega) (by omega) (fun h9 => ?_) (fun h9 => ?_)
    · exfalso; omega
    · refine V_iload_2 hx dX1_countOf_12 ?_
      refine V_aload_0 hx dX1_countOf_13 ?_
      refine V_getRe hx flX1_11 dX1_countOf_14 rfl (k15 hN) (hF.1 15 0 16 rfl) ?_
      refine V_iload_3 hx dX1_countOf_17 ?_
      refine V_aaload hx dX1_countOf_18 (k16 hN) (by unfold refK; omega) (by decide) (by omega) ?_
      refine V_getIx 1 hx hF flX1_21 dX1_countOf_19 rfl rfl (wdC hen.1 hen.2) (fun r19 => ?_)
      refine V_iload_1 hx dX1_countOf_22 ?_
      refine V_icmp_ne (tgt := 30) hx dX1_countOf_23 (by decide) (by omega) (by omega) (fun h23 => ?_) (fun h23 => ?_)
      · refine V_iconst hx dX1_countOf_30 ?_
        refine V_iadd hx dX1_countOf_31 ?_
        refine V_istore_2 hx (by first | exact nc_I | exact nc_R | exact nc_n) dX1_countOf_32 ?_
        refine V_iinc_3 hx (by first | exact nc_I | exact nc_R | exact nc_n) dX1_countOf_33 ?_
        refine V_goto (tgt := 4) hx dX1_countOf_36 (by decide) ?_
        first | exact ih | (rw [cif_t (by first | omega | simp_all)] at ih; exact ih) | (rw [cif_f (by first | omega | simp_all)] at ih; exact ih)
      · refine V_iconst hx dX1_countOf_26 ?_
        refine V_goto (tgt := 31) hx dX1_countOf_27 (by decide) ?_
        refine V_iadd hx dX1_countOf_31 ?_
        refine V_istore_2 hx (by first | exact nc_I | exact nc_R | exact nc_n) dX1_countOf_32 ?_
        refine V_iinc_3 hx (by first | exact nc_I | exact nc_R | exact nc_n) dX1_countOf_33 ?_
        refine V_goto (tgt := 4) hx dX1_countOf_36 (by decide) ?_
        first | exact ih | (rw [cif_t (by first | omega | simp_all)] at ih; exact ih) | (rw [cif_f (by first | omega | simp_all)] at ih; exact ih)

set_option maxRecDepth 8000 in
theorem c_X5_holdsNothing {l : Launch} {d : Dd} {z : Nat} {N : Int} {I : Mm} {a : Int}  (hF : Fx I) (hs : ShC I N a) : Cn l d z yX5_holdsNothing cX5_holdsNothing 1 (some .boolean) 0 0 0 0 [vR z a] N I (pv (vB (I a 1 = -1)) N I) := by
  refine Cn.ofA [(vR z a, false)] [some (vR z a)] RX5 (by decide) rfl ⟨cR z a, trivial⟩ (Nat.le_of_ble_eq_true rfl) rfl (fun x ed el hx hini => ?_)
  have hbd := hs.2.2.2.1
  refine V_aload_0 hx dX5_holdsNothing_0 ?_
  refine V_getIx 1 hx hF flX5_15 dX5_holdsNothing_1 rfl rfl hs.1 (fun r1 => ?_)
  refine V_iconst hx dX5_holdsNothing_4 ?_
  refine V_icmp_ne (tgt := 12) hx dX5_holdsNothing_5 (by decide) (by omega) (by omega) (fun h5 => ?_) (fun h5 => ?_)
  · refine V_iconst hx dX5_holdsNothing_12 ?_
    refine V_zreturn hx dX5_holdsNothing_13 (by first | omega | exact cif01 _) (by omega) (by omega) ?_
    first | exact ⟨by rw [vB_t (by omega)], rfl, rfl⟩ | exact ⟨by rw [vB_f (by omega)], rfl, rfl⟩
  · refine V_iconst hx dX5_holdsNothing_8 ?_
    refine V_goto (tgt := 13) hx dX5_holdsNothing_9 (by decide) ?_
    refine V_zreturn hx dX5_holdsNothing_13 (by first | omega | exact cif01 _) (by omega) (by omega) ?_
    first | exact ⟨by rw [vB_t (by omega)], rfl, rfl⟩ | exact ⟨by rw [vB_f (by omega)], rfl, rfl⟩

set_option maxRecDepth 8000 in
theorem c_X5_startAnew {l : Launch} {d : Dd} {z : Nat} {N : Int} {I : Mm} {a : Int} {lane n : Int} (hF : Fx I) (hs : ShC I N a) (hlane : -2147483648 ≤ lane ∧ lane ≤ 2147483647) (hn : -2147483648 ≤ n ∧ n ≤ 2147483647) : Cn l d z yX5_startAnew cX5_startAnew 3 none 1 23 0 0 [vR z a, vI lane, vI n] N I (pN (fun N' I' => N' = N ∧ I' = up (up (filR I (a + 1) 24 0) a 1 lane) a 2 n ∧ Fx I')) := by
  refine Cn.ofA [(vR z a, false), (vI lane, false), (vI n, false)] [some (vR z a), some (vI lane), some (vI n)] RX5 (by decide) rfl ⟨cR z a, rfl, rfl, trivial⟩ (Nat.le_of_ble_eq_true rfl) rfl (fun x ed el hx hini => ?_)
  have hbd := hs.2.2.2.1
  refine V_aload_0 hx dX5_startAnew_0 ?_
  refine V_getRe hx flX5_9 dX5_startAnew_1 rfl hs.1 hs.2.1 ?_
  refine V_iconst hx dX5_startAnew_4 ?_
  refine V_s2N hx el ed (c_J7_fill_53178 hF hs.2.2.1 (by decide) hs.2.2.2.2.2 (by omega) (by omega)) myJ7_fill_53178 mlX5_19 dX5_startAnew_5 (by decide) (by omega) rfl (by first | exact Nat.le_of_ble_eq_true rfl | simp [vI, vL, vR_cat, Value.category]) (fun N1 I1 ⟨eN, eI, hF⟩ => ?_)
  subst eN; subst eI
  refine V_aload_0 hx dX5_startAnew_8 ?_
  refine V_iload_1 hx dX5_startAnew_9 ?_
  refine V_putIx 1 hx hF flX5_15 dX5_startAnew_10 rfl rfl (fun r h => by cases h; rfl) hs.1 (hs.2.2.2.2.1 _ (by decide)) (by omega) (Or.inl (by omega)) (fun hF => ?_)
  refine V_aload_0 hx dX5_startAnew_13 ?_
  refine V_iload_2 hx dX5_startAnew_14 ?_
  refine V_putIx 2 hx hF flX5_25 dX5_startAnew_15 rfl rfl (fun r h => by cases h; rfl) hs.1 (hs.2.2.2.2.1 _ (by decide)) (by omega) (Or.inl (by omega)) (fun hF => ?_)
  refine V_return hx dX5_startAnew_18 (by omega) (by omega) ?_
  exact ⟨rfl, rfl, rfl, hF⟩

set_option maxRecDepth 8000 in
theorem c_X5_empty {l : Launch} {d : Dd} {z : Nat} {N : Int} {I : Mm} {a : Int}  (hF : Fx I) (hs : ShC I N a) : Cn l d z yX5_empty cX5_empty 1 (some .int) 0 0 0 0 [vR z a] N I (pI (fun r N' I' => r = I a 2 ∧ I' = up I a 1 (-1) ∧ N' = N ∧ Fx I')) := by
  refine Cn.ofA [(vR z a, false)] [some (vR z a)] RX5 (by decide) rfl ⟨cR z a, trivial⟩ (Nat.le_of_ble_eq_true rfl) rfl (fun x ed el hx hini => ?_)
  have hbd := hs.2.2.2.1
  refine V_aload_0 hx dX5_empty_0 ?_
  refine V_iconst hx dX5_empty_1 ?_
  refine V_putIx 1 hx hF flX5_15 dX5_empty_2 rfl rfl (fun r h => by cases h; rfl) hs.1 (hs.2.2.2.2.1 _ (by decide)) (by omega) (Or.inl (by omega)) (fun hF => ?_)
  refine V_aload_0 hx dX5_empty_5 ?_
  refine V_getIx 2 hx hF flX5_25 dX5_empty_6 rfl rfl hs.1 (fun r6 => ?_)
  (try simp only [up_s, up_c, up_row, up_k, ne_eq, Int.reduceEq, not_false_eq_true] at r6 ⊢)
  refine V_ireturn hx dX5_empty_9 (by omega) (by omega) ?_
  exact ⟨_, rfl, rfl, rfl, rfl, hF⟩

set_option maxRecDepth 8000 in
theorem c_X5_hasSpan {l : Launch} {d : Dd} {z : Nat} {N : Int} {I : Mm} {a : Int} {i n : Int} (hF : Fx I) (hs : ShC I N a) (hi : -2147483648 ≤ i ∧ i ≤ 2147483647) (hn : -2147483648 ≤ n ∧ n ≤ 2147483647) (hz : 0 ≤ I a 2 ∧ I a 2 ≤ 24) : Cn l d z yX5_hasSpan cX5_hasSpan 3 (some .boolean) 0 0 0 0 [vR z a, vI i, vI n] N I (pv (vB (0 ≤ n ∧ n ≤ I a 2 ∧ 0 ≤ i ∧ i ≤ I a 2 - n)) N I) := by
  refine Cn.ofA [(vR z a, false), (vI i, false), (vI n, false)] [some (vR z a), some (vI i), some (vI n)] RX5 (by decide) rfl ⟨cR z a, rfl, rfl, trivial⟩ (Nat.le_of_ble_eq_true rfl) rfl (fun x ed el hx hini => ?_)
  have hbd := hs.2.2.2.1
  refine V_iload_2 hx dX5_hasSpan_0 ?_
  refine V_if_lt (tgt := 30) hx dX5_hasSpan_1 (by decide) (by omega) (fun h1 => ?_) (fun h1 => ?_)
  · refine V_iconst hx dX5_hasSpan_30 ?_
    refine V_zreturn hx dX5_hasSpan_31 (by first | omega | exact cif01 _) (by omega) (by omega) ?_
    first | exact ⟨by rw [vB_t (by omega)], rfl, rfl⟩ | exact ⟨by rw [vB_f (by omega)], rfl, rfl⟩
  · refine V_iload_2 hx dX5_hasSpan_4 ?_
    refine V_aload_0 hx dX5_hasSpan_5 ?_
    refine V_getIx 2 hx hF flX5_25 dX5_hasSpan_6 rfl rfl hs.1 (fun r6 => ?_)
    refine V_icmp_gt (tgt := 30) hx dX5_hasSpan_9 (by decide) (by omega) (by omega) (fun h9 => ?_) (fun h9 => ?_)
    · refine V_iconst hx dX5_hasSpan_30 ?_
      refine V_zreturn hx dX5_hasSpan_31 (by first | omega | exact cif01 _) (by omega) (by omega) ?_
      first | exact ⟨by rw [vB_t (by omega)], rfl, rfl⟩ | exact ⟨by rw [vB_f (by omega)], rfl, rfl⟩
    · refine V_iload_1 hx dX5_hasSpan_12 ?_
      refine V_if_lt (tgt := 30) hx dX5_hasSpan_13 (by decide) (by omega) (fun h13 => ?_) (fun h13 => ?_)
      · refine V_iconst hx dX5_hasSpan_30 ?_
        refine V_zreturn hx dX5_hasSpan_31 (by first | omega | exact cif01 _) (by omega) (by omega) ?_
        first | exact ⟨by rw [vB_t (by omega)], rfl, rfl⟩ | exact ⟨by rw [vB_f (by omega)], rfl, rfl⟩
      · refine V_iload_1 hx dX5_hasSpan_16 ?_
        refine V_aload_0 hx dX5_hasSpan_17 ?_
        refine V_getIx 2 hx hF flX5_25 dX5_hasSpan_18 rfl rfl hs.1 (fun r18 => ?_)
        refine V_iload_2 hx dX5_hasSpan_21 ?_
        refine V_isub hx dX5_hasSpan_22 ?_
        refine V_icmp_gt (tgt := 30) hx dX5_hasSpan_23 (by decide) (by omega) (by omega) (fun h23 => ?_) (fun h23 => ?_)
        · refine V_iconst hx dX5_hasSpan_30 ?_
          refine V_zreturn hx dX5_hasSpan_31 (by first | omega | exact cif01 _) (by omega) (by omega) ?_
          first | exact ⟨by rw [vB_t (by omega)], rfl, rfl⟩ | exact ⟨by rw [vB_f (by omega)], rfl, rfl⟩
        · refine V_iconst hx dX5_hasSpan_26 ?_
          refine V_goto (tgt := 31) hx dX5_hasSpan_27 (by decide) ?_
          refine V_zreturn hx dX5_hasSpan_31 (by first | omega | exact cif01 _) (by omega) (by omega) ?_
          first | exact ⟨by rw [vB_t (by omega)], rfl, rfl⟩ | exact ⟨by rw [vB_f (by omega)], rfl, rfl⟩

set_option maxRecDepth 8000 in
theorem c_X5_at {l : Launch} {d : Dd} {z : Nat} {N : Int} {I : Mm} {a : Int} {i : Int} (hF : Fx I) (hs : ShC I N a) (hi : -2147483648 ≤ i ∧ i ≤ 2147483647) : Cn l d z yX5_at cX5_at 2 (some .int) 0 0 0 0 [vR z a, vI i] N I (pq (cif (0 ≤ i ∧ i < 24) (I (a + 1) i) 0) N I) := by
  refine Cn.ofA [(vR z a, false), (vI i, false)] [some (vR z a), some (vI i)] RX5 (by decide) rfl ⟨cR z a, rfl, trivial⟩ (Nat.le_of_ble_eq_true rfl) rfl (fun x ed el hx hini => ?_)
  have hbd := hs.2.2.2.1
  refine V_iload_1 hx dX5_at_0 ?_
  refine V_if_lt (tgt := 13) hx dX5_at_1 (by decide) (by omega) (fun h1 => ?_) (fun h1 => ?_)
  · refine V_iconst hx dX5_at_13 ?_
    refine V_goto (tgt := 23) hx dX5_at_14 (by decide) ?_
    refine V_ireturn hx dX5_at_23 (by omega) (by omega) ?_
    exact ⟨by first | rw [cif_t (by omega)] | rw [cif_f (by omega)], rfl, rfl, by first | (rw [cif_t (by omega)]; omega) | (rw [cif_f (by omega)]; omega)⟩
  · refine V_iload_1 hx dX5_at_4 ?_
    refine V_aload_0 hx dX5_at_5 ?_
    refine V_getRe hx flX5_9 dX5_at_6 rfl hs.1 hs.2.1 ?_
    refine V_alen hx dX5_at_9 hs.2.2.1 (by unfold tyK; omega) ?_
    refine V_icmp_lt (tgt := 17) hx dX5_at_10 (by decide) (by omega) (by omega) (fun h10 => ?_) (fun h10 => ?_)
    · refine V_aload_0 hx dX5_at_17 ?_
      refine V_getRe hx flX5_9 dX5_at_18 rfl hs.1 hs.2.1 ?_
      refine V_iload_1 hx dX5_at_21 ?_
      refine V_ialoadx hx hF dX5_at_22 hs.2.2.1 (by decide) (by omega) (fun r22 => ?_)
      refine V_ireturn hx dX5_at_23 (by omega) (by omega) ?_
      exact ⟨by first | rw [cif_t (by omega)] | rw [cif_f (by omega)], rfl, rfl, by first | (rw [cif_t (by omega)]; omega) | (rw [cif_f (by omega)]; omega)⟩
    · refine V_iconst hx dX5_at_13 ?_
      refine V_goto (tgt := 23) hx dX5_at_14 (by decide) ?_
      refine V_ireturn hx dX5_at_23 (by omega) (by omega) ?_
      exact ⟨by first | rw [cif_t (by omega)] | rw [cif_f (by omega)], rfl, rfl, by first | (rw [cif_t (by omega)]; omega) | (rw [cif_f (by omega)]; omega)⟩

set_option maxRecDepth 8000 in
theorem c_X5_put {l : Launch} {d : Dd} {z : Nat} {N : Int} {I : Mm} {a : Int} {i v : Int} (hF : Fx I) (hs : ShC I N a) (hi : 0 ≤ i ∧ i < 24) (hv : -2147483648 ≤ v ∧ v ≤ 2147483647) : Cn l d z yX5_put cX5_put 3 none 0 0 0 0 [vR z a, vI i, vI v] N I (pN (fun N' I' => N' = N ∧ I' = up I (a + 1) i (lnv (I a 1) v) ∧ Fx I')) := by
  refine Cn.ofA [(vR z a, false), (vI i, false), (vI v, false)] [some (vR z a), some (vI i), some (vI v)] RX5 (by decide) rfl ⟨cR z a, rfl, rfl, trivial⟩ (Nat.le_of_ble_eq_true rfl) rfl (fun x ed el hx hini => ?_)
  have hbd := hs.2.2.2.1
  have hbm := bm_rng v
  refine V_iload_1 hx dX5_put_0 ?_
  refine V_if_lt (tgt := 45) hx dX5_put_1 (by decide) (by omega) (fun h1 => ?_) (fun h1 => ?_)
  · refine V_return hx dX5_put_45 (by omega) (by omega) ?_
    exact ⟨rfl, rfl, by unfold lnv; (repeat (first | rw [cif_t (by omega)] | rw [cif_f (by omega)])); all_goals (exfalso; omega), hF⟩
  · refine V_iload_1 hx dX5_put_4 ?_
    refine V_aload_0 hx dX5_put_5 ?_
    refine V_getRe hx flX5_9 dX5_put_6 rfl hs.1 hs.2.1 ?_
    refine V_alen hx dX5_put_9 hs.2.2.1 (by unfold tyK; omega) ?_
    refine V_icmp_ge (tgt := 45) hx dX5_put_10 (by decide) (by omega) (by omega) (fun h10 => ?_) (fun h10 => ?_)
    · refine V_return hx dX5_put_45 (by omega) (by omega) ?_
      exact ⟨rfl, rfl, by unfold lnv; (repeat (first | rw [cif_t (by omega)] | rw [cif_f (by omega)])); all_goals (exfalso; omega), hF⟩
    · refine V_aload_0 hx dX5_put_13 ?_
      refine V_getRe hx flX5_9 dX5_put_14 rfl hs.1 hs.2.1 ?_
      refine V_iload_1 hx dX5_put_17 ?_
      refine V_aload_0 hx dX5_put_18 ?_
      refine V_getIx 1 hx hF flX5_15 dX5_put_19 rfl rfl hs.1 (fun r19 => ?_)
      refine V_if_ne (tgt := 30) hx dX5_put_22 (by decide) (by omega) (fun h22 => ?_) (fun h22 => ?_)
      · refine V_aload_0 hx dX5_put_30 ?_
        refine V_getIx 1 hx hF flX5_15 dX5_put_31 rfl rfl hs.1 (fun r31 => ?_)
        refine V_iconst hx dX5_put_34 ?_
        refine V_icmp_ne (tgt := 43) hx dX5_put_35 (by decide) (by omega) (by omega) (fun h35 => ?_) (fun h35 => ?_)
        · refine V_iload_2 hx dX5_put_43 ?_
          refine V_iastorex hx hF dX5_put_44 hs.2.2.1 (by decide) (by omega) (fx_none hs.2.2.2.2.2 _) (by omega) (by omega) (fun hF => ?_)
          refine V_return hx dX5_put_45 (by omega) (by omega) ?_
          exact ⟨rfl, rfl, by unfold lnv; (repeat (first | rw [cif_t (by omega)] | rw [cif_f (by omega)])); all_goals (exfalso; omega), hF⟩
        · refine V_iload_2 hx dX5_put_38 ?_
          refine V_i2s hx (Int.bmod v 65536) dX5_put_39 (oI_i2s v) ?_
          refine V_goto (tgt := 44) hx dX5_put_40 (by decide) ?_
          refine V_iastorex hx hF dX5_put_44 hs.2.2.1 (by decide) (by omega) (fx_none hs.2.2.2.2.2 _) (by omega) (by omega) (fun hF => ?_)
          refine V_return hx dX5_put_45 (by omega) (by omega) ?_
          exact ⟨rfl, rfl, by unfold lnv; (repeat (first | rw [cif_t (by omega)] | rw [cif_f (by omega)])); all_goals (exfalso; omega), hF⟩
      · refine V_iload_2 hx dX5_put_25 ?_
        refine V_i2b hx (Int.bmod v 256) dX5_put_26 (oI_i2b v) ?_
        refine V_goto (tgt := 44) hx dX5_put_27 (by decide) ?_
        refine V_iastorex hx hF dX5_put_44 hs.2.2.1 (by decide) (by omega) (fx_none hs.2.2.2.2.2 _) (by omega) (by omega) (fun hF => ?_)
        refine V_return hx dX5_put_45 (by omega) (by omega) ?_
        exact ⟨rfl, rfl, by unfold lnv; (repeat (first | rw [cif_t (by omega)] | rw [cif_f (by omega)])); all_goals (exfalso; omega), hF⟩

