set_option maxRecDepth 8000 in
theorem c_X0_clear {l : Launch} {d : Dd} {z : Nat} {N : Int} {I : Mm} (hN : 67 ≤ N) (hF : Fx I) : Cn l d z yX0_clear cX0_clear 1 none 0 0 0 0 [vR z 18] N I (pN (fun N' I' => N' = N ∧ I' = up I 18 1 0 ∧ Fx I')) := by
  refine Cn.ofA [(vR z 18, false)] [some (vR z 18)] RX0 (by decide) rfl ⟨cR z 18, trivial⟩ (Nat.le_of_ble_eq_true rfl) rfl (fun x ed el hx hini => ?_)
  refine V_aload_0 hx dX0_clear_0 ?_
  refine V_iconst hx dX0_clear_1 ?_
  refine V_putIx 1 hx hF flX0_21 dX0_clear_2 rfl rfl (fun r h => by cases h; rfl) (k18 hN) rfl (by omega) (Or.inl (by decide)) (fun hF => ?_)
  refine V_return hx dX0_clear_5 (by omega) (by omega) ?_
  exact ⟨rfl, rfl, rfl, hF⟩

set_option maxRecDepth 8000 in
theorem c_X0_add {l : Launch} {d : Dd} {z : Nat} {N : Int} {I : Mm} {v : Int} (hN : 67 ≤ N) (hF : Fx I) (hv : -2147483648 ≤ v ∧ v ≤ 2147483647) (hz : 0 ≤ I 18 1 ∧ I 18 1 < 24) : Cn l d z yX0_add cX0_add 2 none 0 0 0 0 [vR z 18, vI v] N I (pN (fun N' I' => N' = N ∧ I' = up (up I 19 (I 18 1) v) 18 1 (I 18 1 + 1) ∧ Fx I')) := by
  refine Cn.ofA [(vR z 18, false), (vI v, false)] [some (vR z 18), some (vI v)] RX0 (by decide) rfl ⟨cR z 18, rfl, trivial⟩ (Nat.le_of_ble_eq_true rfl) rfl (fun x ed el hx hini => ?_)
  refine V_aload_0 hx dX0_add_0 ?_
  refine V_getIx 1 hx hF flX0_21 dX0_add_1 rfl rfl (k18 hN) (fun r1 => ?_)
  refine V_aload_0 hx dX0_add_4 ?_
  refine V_getRe hx flX0_9 dX0_add_5 rfl (k18 hN) (hF.1 18 0 19 rfl) ?_
  refine V_alen hx dX0_add_8 (k19 hN) (by unfold tyK; omega) ?_
  refine V_icmp_ge (tgt := 32) hx dX0_add_9 (by decide) (by omega) (by omega) (fun h9 => ?_) (fun h9 => ?_)
  · refine V_return hx dX0_add_32 (by omega) (by omega) ?_
    first | (exfalso; omega) | exact ⟨rfl, rfl, rfl, hF⟩
  · refine V_aload_0 hx dX0_add_12 ?_
    refine V_getRe hx flX0_9 dX0_add_13 rfl (k18 hN) (hF.1 18 0 19 rfl) ?_
    refine V_aload_0 hx dX0_add_16 ?_
    refine V_getIx 1 hx hF flX0_21 dX0_add_17 rfl rfl (k18 hN) (fun r17 => ?_)
    refine V_iload_1 hx dX0_add_20 ?_
    refine V_iastorex hx hF dX0_add_21 (k19 hN) (by decide) (by omega) (fx_none rfl _) (by omega) (Or.inl (by decide)) (fun hF => ?_)
    refine V_aload_0 hx dX0_add_22 ?_
    refine V_dupR hx dX0_add_23 ?_
    refine V_getIx 1 hx hF flX0_21 dX0_add_24 rfl rfl (k18 hN) (fun r24 => ?_)
    (try simp only [up_s, up_c, up_row, up_k, ne_eq, Int.reduceEq, not_false_eq_true] at r24 ⊢)
    refine V_iconst hx dX0_add_27 ?_
    refine V_iadd hx dX0_add_28 ?_
    refine V_putIx 1 hx hF flX0_21 dX0_add_29 rfl rfl (fun r h => by cases h; rfl) (k18 hN) rfl (by omega) (Or.inl (by decide)) (fun hF => ?_)
    refine V_return hx dX0_add_32 (by omega) (by omega) ?_
    first | (exfalso; omega) | exact ⟨rfl, rfl, rfl, hF⟩

set_option maxRecDepth 8000 in
theorem c_X0_outOfOrder {l : Launch} {d : Dd} {z : Nat} {N : Int} {I : Mm} {k : Int} (hN : 67 ≤ N) (hF : Fx I) (hH : HpC I) (hk : 1 ≤ k ∧ k ≤ 8) : Cn l d z yX0_outOfOrder cX0_outOfOrder 5 (some .int) 0 0 0 0 [vR z 18, vI k] N I (pq (pr (fun a b => I 19 b < I 19 a ∧ I 19 a * k / 32 = I 19 b * k / 32) (I 18 1).toNat) N I) := by
  refine Cn.ofA [(vR z 18, false), (vI k, false)] [some (vR z 18), some (vI k), none, none, none] RX0 (by decide) rfl ⟨cR z 18, rfl, trivial⟩ (Nat.le_of_ble_eq_true rfl) rfl (fun x ed el hx hini => ?_)
  have hl := hH.1
  refine V_iconst hx dX0_outOfOrder_0 ?_
  refine V_istore_2 hx (by first | exact nc_I | exact nc_R | exact nc_n) dX0_outOfOrder_1 ?_
  refine V_iconst hx dX0_outOfOrder_2 ?_
  refine V_istore_3 hx (by first | exact nc_I | exact nc_R | exact nc_n) dX0_outOfOrder_3 ?_
  refine loop_inv (α := Int) 0 (I 18 1) hl.1 (fun i acc => acc = sm (prI (fun a b => I 19 b < I 19 a ∧ I 19 a * k / 32 = I 19 b * k / 32) (I 18 1).toNat) i.toNat) (fun i acc => V x z _ N I 0 0 4 [some (vR z 18), some (vI k), some (vI acc), some (vI i), none] []) ?_ ?_ 0 rfl
  · rintro acc ea
    refine V_iload_3 hx dX0_outOfOrder_4 ?_
    refine V_aload_0 hx dX0_outOfOrder_5 ?_
    refine V_getIx 1 hx hF flX0_21 dX0_outOfOrder_6 rfl rfl (k18 hN) (fun r6 => ?_)
    refine V_icmp_ge (tgt := 83) hx dX0_outOfOrder_9 (by decide) (by omega) (by omega) (fun h9 => ?_) (fun h9 => ?_)
    · refine V_iload_2 hx dX0_outOfOrder_83 ?_
      refine V_ireturn hx dX0_outOfOrder_84 (by omega) (by omega) ?_
      exact ⟨by rw [ea]; rfl, rfl, rfl, by have := pr_b (fun a b => I 19 b < I 19 a ∧ I 19 a * k / 32 = I 19 b * k / 32) (m := (I 18 1).toNat) (n := (I 18 1).toNat) (by omega) (by omega); unfold pr; omega⟩
    · exfalso; omega
  · rintro i acc hi0 hi1 ea ih
    have hb0 := pr_b (fun a b => I 19 b < I 19 a ∧ I 19 a * k / 32 = I 19 b * k / 32) (m := i.toNat) (n := (I 18 1).toNat) (by omega) (by omega)
    have hri := hH.2 i hi0 hi1
    have hmi := mulb (a := I 19 i) (b := k) (A := 31) (B := 8) (by omega) (by omega)
    have hmi0 : 0 ≤ I 19 i * k := Int.mul_nonneg (by omega) (by omega)
    refine V_iload_3 hx dX0_outOfOrder_4 ?_
    refine V_aload_0 hx dX0_outOfOrder_5 ?_
    refine V_getIx 1 hx hF flX0_21 dX0_outOfOrder_6 rfl rfl (k18 hN) (fun r6 => ?_)
    refine V_icmp_ge (tgt := 83) hx dX0_outOfOrder_9 (by decide) (by omega) (by omega) (fun h9 => ?_) (fun h9 => ?_)
    · exfalso; omega
    · refine V_iload_3 hx dX0_outOfOrder_12 ?_
      refine V_iconst hx dX0_outOfOrder_13 ?_
      refine V_iadd hx dX0_outOfOrder_14 ?_
      refine V_istore_4 hx (by first | exact nc_I | exact nc_R | exact nc_n) dX0_outOfOrder_15 ?_
      refine loop_inv (α := Int) (i + 1) (I 18 1) (by omega) (fun j s => s = acc + sm (fun b => cif (i < b ∧ (fun a b => I 19 b < I 19 a ∧ I 19 a * k / 32 = I 19 b * k / 32) i b) 1 0) j.toNat) (fun j s => V x z _ N I 0 0 17 [some (vR z 18), some (vI k), some (vI s), some (vI i), some (vI j)] []) ?_ ?_ acc (by rw [sm_z (fun q q0 q1 => cif_f (by omega)), Int.add_zero])
      · rintro s es
        have hb1 := prI_b (fun a b => I 19 b < I 19 a ∧ I 19 a * k / 32 = I 19 b * k / 32) (I 18 1).toNat i
        unfold prI at hb1
        refine V_iload_4 hx dX0_outOfOrder_17 ?_
        refine V_aload_0 hx dX0_outOfOrder_19 ?_
        refine V_getIx 1 hx hF flX0_21 dX0_outOfOrder_20 rfl rfl (k18 hN) (fun r20 => ?_)
        refine V_icmp_ge (tgt := 77) hx dX0_outOfOrder_23 (by decide) (by omega) (by omega) (fun h23 => ?_) (fun h23 => ?_)
        · refine V_iinc_3 hx (by first | exact nc_I | exact nc_R | exact nc_n) dX0_outOfOrder_77 ?_
          refine V_goto (tgt := 4) hx dX0_outOfOrder_80 (by decide) ?_
          refine V_drop_4 ?_
          exact ih _ (by rw [sm_s _ hi0, es, ea]; rfl)
        · exfalso; omega
      · rintro j s hj0 hj1 es jh
        have hb1 := sm_b (f := fun b => cif (i < b ∧ (fun a b => I 19 b < I 19 a ∧ I 19 a * k / 32 = I 19 b * k / 32) i b) 1 0) (B := 1) (fun q => by have := cif01 (i < q ∧ (fun a b => I 19 b < I 19 a ∧ I 19 a * k / 32 = I 19 b * k / 32) i q); (try dsimp only at this ⊢); omega) j.toNat
        have hrj := hH.2 j (by omega) hj1
        have hmj := mulb (a := I 19 j) (b := k) (A := 31) (B := 8) (by omega) (by omega)
        have hmj0 : 0 ≤ I 19 j * k := Int.mul_nonneg (by omega) (by omega)
        refine V_iload_4 hx dX0_outOfOrder_17 ?_
        refine V_aload_0 hx dX0_outOfOrder_19 ?_
        refine V_getIx 1 hx hF flX0_21 dX0_outOfOrder_20 rfl rfl (k18 hN) (fun r20 => ?_)
        refine V_icmp_ge (tgt := 77) hx dX0_outOfOrder_23 (by decide) (by omega) (by omega) (fun h23 => ?_) (fun h23 => ?_)
        · exfalso; omega
        · refine V_aload_0 hx dX0_outOfOrder_26 ?_
          refine V_getRe hx flX0_9 dX0_outOfOrder_27 rfl (k18 hN) (hF.1 18 0 19 rfl) ?_
          refine V_iload_3 hx dX0_outOfOrder_30 ?_
          refine V_ialoadx hx hF dX0_outOfOrder_31 (k19 hN) (by decide) (by omega) (fun r31 => ?_)
          refine V_aload_0 hx dX0_outOfOrder_32 ?_
          refine V_getRe hx flX0_9 dX0_outOfOrder_33 rfl (k18 hN) (hF.1 18 0 19 rfl) ?_
          refine V_iload_4 hx dX0_outOfOrder_36 ?_
          refine V_ialoadx hx hF dX0_outOfOrder_38 (k19 hN) (by decide) (by omega) (fun r38 => ?_)
          refine V_icmp_le (tgt := 71) hx dX0_outOfOrder_39 (by decide) (by omega) (by omega) (fun h39 => ?_) (fun h39 => ?_)
          · refine V_iinc_4 hx (by first | exact nc_I | exact nc_R | exact nc_n) dX0_outOfOrder_71 ?_
            refine V_goto (tgt := 17) hx dX0_outOfOrder_74 (by decide) ?_
            first
              | exact jh _ (by rw [sm_s _ (by omega), es, cif_t ⟨by omega, by omega, by omega⟩]; omega)
              | exact jh _ (by rw [sm_s _ (by omega), es, cif_f (by omega), Int.add_zero])
          · refine V_aload_0 hx dX0_outOfOrder_42 ?_
            refine V_getRe hx flX0_9 dX0_outOfOrder_43 rfl (k18 hN) (hF.1 18 0 19 rfl) ?_
            refine V_iload_3 hx dX0_outOfOrder_46 ?_
            refine V_ialoadx hx hF dX0_outOfOrder_47 (k19 hN) (by decide) (by omega) (fun r47 => ?_)
            refine V_iload_1 hx dX0_outOfOrder_48 ?_
            refine V_imul hx dX0_outOfOrder_49 ?_
            refine V_bipush hx dX0_outOfOrder_50 (by decide) ?_
            refine V_idiv hx dX0_outOfOrder_52 (by omega) (by omega) ?_
            refine V_aload_0 hx dX0_outOfOrder_53 ?_
            refine V_getRe hx flX0_9 dX0_outOfOrder_54 rfl (k18 hN) (hF.1 18 0 19 rfl) ?_
            refine V_iload_4 hx dX0_outOfOrder_57 ?_
            refine V_ialoadx hx hF dX0_outOfOrder_59 (k19 hN) (by decide) (by omega) (fun r59 => ?_)
            refine V_iload_1 hx dX0_outOfOrder_60 ?_
            refine V_imul hx dX0_outOfOrder_61 ?_
            refine V_bipush hx dX0_outOfOrder_62 (by decide) ?_
            refine V_idiv hx dX0_outOfOrder_64 (by omega) (by omega) ?_
            refine V_icmp_ne (tgt := 71) hx dX0_outOfOrder_65 (by decide) (by omega) (by omega) (fun h65 => ?_) (fun h65 => ?_)
            · refine V_iinc_4 hx (by first | exact nc_I | exact nc_R | exact nc_n) dX0_outOfOrder_71 ?_
              refine V_goto (tgt := 17) hx dX0_outOfOrder_74 (by decide) ?_
              first
                | exact jh _ (by rw [sm_s _ (by omega), es, cif_t ⟨by omega, by omega, by omega⟩]; omega)
                | exact jh _ (by rw [sm_s _ (by omega), es, cif_f (by omega), Int.add_zero])
            · refine V_iinc_2 hx (by first | exact nc_I | exact nc_R | exact nc_n) dX0_outOfOrder_68 ?_
              refine V_iinc_4 hx (by first | exact nc_I | exact nc_R | exact nc_n) dX0_outOfOrder_71 ?_
              refine V_goto (tgt := 17) hx dX0_outOfOrder_74 (by decide) ?_
              first
                | exact jh _ (by rw [sm_s _ (by omega), es, cif_t ⟨by omega, by omega, by omega⟩]; omega)
                | exact jh _ (by rw [sm_s _ (by omega), es, cif_f (by omega), Int.add_zero])

