set_option maxRecDepth 8000 in
theorem c_X0_countPairs {l : Launch} {d : Dd} {z : Nat} {N : Int} {I : Mm} (hN : 67 ≤ N) (hF : Fx I) (hH : HpC I) : Cn l d z yX0_countPairs cX0_countPairs 3 none 1 23 0 0 [vR z 18] N I (pN (fun N' I' => N' = N ∧ Fx I' ∧ (∀ a q : Int, a ≠ 20 → I' a q = I a q) ∧ ∀ x y : Int, 0 ≤ x → x ≤ 31 → 0 ≤ y → y ≤ 31 → I' 20 (x * 32 + y) = PX (I 19) (I 18 1).toNat x y)) := by
  refine Cn.ofA [(vR z 18, false)] [some (vR z 18), none, none] RX0 (by decide) rfl ⟨cR z 18, trivial⟩ (Nat.le_of_ble_eq_true rfl) rfl (fun x ed el hx hini => ?_)
  have hl := hH.1
  refine V_aload_0 hx dX0_countPairs_0 ?_
  refine V_getRe hx flX0_15 dX0_countPairs_1 rfl (k18 hN) (hF.1 18 2 20 rfl) ?_
  refine V_iconst hx dX0_countPairs_4 ?_
  refine V_s2N hx el ed (c_J7_fill_53178 hF (k20 hN) (by decide) rfl (by omega) (by decide)) myJ7_fill_53178 mlX0_34 dX0_countPairs_5 (by decide) (by omega) rfl (by first | exact Nat.le_of_ble_eq_true rfl | simp [vI, vL, vR_cat, Value.category]) (fun N1 I1 ⟨eN, eI, hF⟩ => ?_)
  subst eN
  refine V_iconst hx dX0_countPairs_8 ?_
  refine V_istore_1 hx (by first | exact nc_I | exact nc_R | exact nc_n) dX0_countPairs_9 ?_
  refine loop_inv (α := Mm) 0 (I 18 1) hl.1 (fun i M => Fx M ∧ (∀ a q : Int, a ≠ 20 → M a q = I a q) ∧ ∀ x y : Int, 0 ≤ x → x ≤ 31 → 0 ≤ y → y ≤ 31 → M 20 (x * 32 + y) = sm (prI (pX (I 19) x y) (I 18 1).toNat) i.toNat) (fun i M => V x z _ N1 M 0 0 10 [some (vR z 18), some (vI i), none] []) ?_ ?_ I1 ⟨hF, fun a q ha => by rw [eI, filR_row ha], fun x y x0 x1 y0 y1 => by rw [eI, filR_in (by omega)]; rfl⟩
  · rintro M ⟨hF, hM, hJ⟩
    have e18 := hM 18 1 (by decide)
    refine V_iload_1 hx dX0_countPairs_10 ?_
    refine V_aload_0 hx dX0_countPairs_11 ?_
    refine V_getIx 1 hx hF flX0_21 dX0_countPairs_12 rfl rfl (k18 hN) (fun r12 => ?_)
    refine V_icmp_ge (tgt := 82) hx dX0_countPairs_15 (by decide) (by omega) (by omega) (fun h15 => ?_) (fun h15 => ?_)
    · refine V_return hx dX0_countPairs_82 (by omega) (by omega) ?_
      exact ⟨rfl, rfl, hF, hM, hJ⟩
    · exfalso; omega
  · rintro i M0 hi0 hi1 ⟨hF, hM, hJ⟩ ih
    have e18 := hM 18 1 (by decide)
    have hri := hH.2 i hi0 hi1
    refine V_iload_1 hx dX0_countPairs_10 ?_
    refine V_aload_0 hx dX0_countPairs_11 ?_
    refine V_getIx 1 hx hF flX0_21 dX0_countPairs_12 rfl rfl (k18 hN) (fun r12 => ?_)
    refine V_icmp_ge (tgt := 82) hx dX0_countPairs_15 (by decide) (by omega) (by omega) (fun h15 => ?_) (fun h15 => ?_)
    · exfalso; omega
    · refine V_iload_1 hx dX0_countPairs_18 ?_
      refine V_iconst hx dX0_countPairs_19 ?_
      refine V_iadd hx dX0_countPairs_20 ?_
      refine V_istore_2 hx (by first | exact nc_I | exact nc_R | exact nc_n) dX0_countPairs_21 ?_
      refine loop_inv (α := Mm) (i + 1) (I 18 1) (by omega) (fun j M => Fx M ∧ (∀ a q : Int, a ≠ 20 → M a q = I a q) ∧ ∀ x y : Int, 0 ≤ x → x ≤ 31 → 0 ≤ y → y ≤ 31 → M 20 (x * 32 + y) = sm (prI (pX (I 19) x y) (I 18 1).toNat) i.toNat + sm (fun b => cif (i < b ∧ pX (I 19) x y i b) 1 0) j.toNat) (fun j M => V x z _ N1 M 0 0 22 [some (vR z 18), some (vI i), some (vI j)] []) ?_ ?_ M0 ⟨hF, hM, fun x y x0 x1 y0 y1 => by rw [hJ x y x0 x1 y0 y1, sm_z (n := (i + 1).toNat) (fun q q0 q1 => cif_f (by omega)), Int.add_zero]⟩
      · rintro M ⟨hF, hM, hJ⟩
        have e18 := hM 18 1 (by decide)
        refine V_iload_2 hx dX0_countPairs_22 ?_
        refine V_aload_0 hx dX0_countPairs_23 ?_
        refine V_getIx 1 hx hF flX0_21 dX0_countPairs_24 rfl rfl (k18 hN) (fun r24 => ?_)
        refine V_icmp_ge (tgt := 76) hx dX0_countPairs_27 (by decide) (by omega) (by omega) (fun h27 => ?_) (fun h27 => ?_)
        · refine V_iinc_1 hx (by first | exact nc_I | exact nc_R | exact nc_n) dX0_countPairs_76 ?_
          refine V_goto (tgt := 10) hx dX0_countPairs_79 (by decide) ?_
          refine V_drop_2 ?_
          exact ih _ ⟨hF, hM, fun x y x0 x1 y0 y1 => by rw [sm_s _ hi0, hJ x y x0 x1 y0 y1]; rfl⟩
        · exfalso; omega
      · rintro j M hj0 hj1 ⟨hF, hM, hJ⟩ jh
        have e18 := hM 18 1 (by decide)
        have hrj := hH.2 j (by omega) hj1
        have e19i := hM 19 i (by decide)
        have e19j := hM 19 j (by decide)
        refine V_iload_2 hx dX0_countPairs_22 ?_
        refine V_aload_0 hx dX0_countPairs_23 ?_
        refine V_getIx 1 hx hF flX0_21 dX0_countPairs_24 rfl rfl (k18 hN) (fun r24 => ?_)
        refine V_icmp_ge (tgt := 76) hx dX0_countPairs_27 (by decide) (by omega) (by omega) (fun h27 => ?_) (fun h27 => ?_)
        · exfalso; omega
        · refine V_aload_0 hx dX0_countPairs_30 ?_
          refine V_getRe hx flX0_9 dX0_countPairs_31 rfl (k18 hN) (hF.1 18 0 19 rfl) ?_
          refine V_iload_1 hx dX0_countPairs_34 ?_
          refine V_ialoadx hx hF dX0_countPairs_35 (k19 hN) (by decide) (by omega) (fun r35 => ?_)
          refine V_aload_0 hx dX0_countPairs_36 ?_
          refine V_getRe hx flX0_9 dX0_countPairs_37 rfl (k18 hN) (hF.1 18 0 19 rfl) ?_
          refine V_iload_2 hx dX0_countPairs_40 ?_
          refine V_ialoadx hx hF dX0_countPairs_41 (k19 hN) (by decide) (by omega) (fun r41 => ?_)
          refine V_icmp_le (tgt := 70) hx dX0_countPairs_42 (by decide) (by omega) (by omega) (fun h42 => ?_) (fun h42 => ?_)
          · refine V_iinc_2 hx (by first | exact nc_I | exact nc_R | exact nc_n) dX0_countPairs_70 ?_
            refine V_goto (tgt := 22) hx dX0_countPairs_73 (by decide) ?_
            first
              | (refine jh _ ⟨hF, hM, fun x y x0 x1 y0 y1 => ?_⟩
                 rw [sm_s _ (by omega), cif_f (by unfold pX; omega), hJ x y x0 x1 y0 y1]; omega)
              | (refine jh _ ⟨hF, fun a q ha => by rw [up_c ha]; exact hM a q ha, fun x y x0 x1 y0 y1 => ?_⟩
                 rw [sm_s _ (by omega)]
                 by_cases c : x = I 19 j ∧ y = I 19 i
                 · rw [cif_t ⟨by omega, by unfold pX; omega⟩, show x * 32 + y = M 19 j * 32 + M 19 i by omega, up_s, e19j, e19i, hv, c.1, c.2]; omega
                 · rw [up_k (by omega), cif_f (by unfold pX; omega), hJ x y x0 x1 y0 y1]; omega)
          · have hv := hJ (I 19 j) (I 19 i) (by omega) (by omega) (by omega) (by omega)
            have hv1 := pr_b (pX (I 19) (I 19 j) (I 19 i)) (m := i.toNat) (n := (I 18 1).toNat) (by omega) (by omega)
            have hv2 := sm_b (f := fun b => cif (i < b ∧ pX (I 19) (I 19 j) (I 19 i) i b) 1 0) (B := 1) (fun q => by have := cif01 (i < q ∧ pX (I 19) (I 19 j) (I 19 i) i q); omega) j.toNat
            have hvM : M 20 (M 19 j * 32 + M 19 i) = M 20 (I 19 j * 32 + I 19 i) := by rw [e19j, e19i]
            refine V_aload_0 hx dX0_countPairs_45 ?_
            refine V_getRe hx flX0_15 dX0_countPairs_46 rfl (k18 hN) (hF.1 18 2 20 rfl) ?_
            refine V_aload_0 hx dX0_countPairs_49 ?_
            refine V_getRe hx flX0_9 dX0_countPairs_50 rfl (k18 hN) (hF.1 18 0 19 rfl) ?_
            refine V_iload_2 hx dX0_countPairs_53 ?_
            refine V_ialoadx hx hF dX0_countPairs_54 (k19 hN) (by decide) (by omega) (fun r54 => ?_)
            refine V_bipush hx dX0_countPairs_55 (by decide) ?_
            refine V_imul hx dX0_countPairs_57 ?_
            refine V_aload_0 hx dX0_countPairs_58 ?_
            refine V_getRe hx flX0_9 dX0_countPairs_59 rfl (k18 hN) (hF.1 18 0 19 rfl) ?_
            refine V_iload_1 hx dX0_countPairs_62 ?_
            refine V_ialoadx hx hF dX0_countPairs_63 (k19 hN) (by decide) (by omega) (fun r63 => ?_)
            refine V_iadd hx dX0_countPairs_64 ?_
            refine V_dup2 hx dX0_countPairs_65 ?_
            refine V_ialoadx hx hF dX0_countPairs_66 (k20 hN) (by decide) (by omega) (fun r66 => ?_)
            refine V_iconst hx dX0_countPairs_67 ?_
            refine V_iadd hx dX0_countPairs_68 ?_
            refine V_iastorex hx hF dX0_countPairs_69 (k20 hN) (by decide) (by omega) (fx_none rfl _) (by omega) (Or.inl (by decide)) (fun hF => ?_)
            refine V_iinc_2 hx (by first | exact nc_I | exact nc_R | exact nc_n) dX0_countPairs_70 ?_
            refine V_goto (tgt := 22) hx dX0_countPairs_73 (by decide) ?_
            first
              | (refine jh _ ⟨hF, hM, fun x y x0 x1 y0 y1 => ?_⟩
                 rw [sm_s _ (by omega), cif_f (by unfold pX; omega), hJ x y x0 x1 y0 y1]; omega)
              | (refine jh _ ⟨hF, fun a q ha => by rw [up_c ha]; exact hM a q ha, fun x y x0 x1 y0 y1 => ?_⟩
                 rw [sm_s _ (by omega)]
                 by_cases c : x = I 19 j ∧ y = I 19 i
                 · rw [cif_t ⟨by omega, by unfold pX; omega⟩, show x * 32 + y = M 19 j * 32 + M 19 i by omega, up_s, e19j, e19i, hv, c.1, c.2]; omega
                 · rw [up_k (by omega), cif_f (by unfold pX; omega), hJ x y x0 x1 y0 y1]; omega)

set_option maxRecDepth 8000 in
theorem c_X0_addUpSpans {l : Launch} {d : Dd} {z : Nat} {N : Int} {I : Mm} {g : Int → Int} {n : Nat} (hN : 67 ≤ N) (hF : Fx I) (hn : n ≤ 24) (hP : ∀ x y : Int, 0 ≤ x → x ≤ 31 → 0 ≤ y → y ≤ 31 → I 20 (x * 32 + y) = PX g n x y) : Cn l d z yX0_addUpSpans cX0_addUpSpans 5 none 0 0 0 0 [vR z 18] N I (pN (fun N' I' => N' = N ∧ Fx I' ∧ (∀ a q : Int, a ≠ 20 → I' a q = I a q) ∧ ∀ x y : Int, 0 ≤ x → x ≤ 31 → 0 ≤ y → y ≤ 31 → I' 20 (x * 32 + y) = PS g n x y)) := by
  refine Cn.ofA [(vR z 18, false)] [some (vR z 18), none, none, none, none] RX0 (by decide) rfl ⟨cR z 18, trivial⟩ (Nat.le_of_ble_eq_true rfl) rfl (fun x ed el hx hini => ?_)
  refine V_iconst hx dX0_addUpSpans_0 ?_
  refine V_istore_1 hx (by first | exact nc_I | exact nc_R | exact nc_n) dX0_addUpSpans_1 ?_
  refine loop_inv (α := Mm) 1 32 (by decide) (fun w M => Fx M ∧ (∀ a q : Int, a ≠ 20 → M a q = I a q) ∧ ∀ x y : Int, 0 ≤ x → x ≤ 31 → 0 ≤ y → y ≤ 31 → M 20 (x * 32 + y) = cif (y - x < w) (PS g n x y) (PX g n x y)) (fun w M => V x z _ N M 0 0 2 [some (vR z 18), some (vI w), none, none, none] []) ?_ ?_ I ⟨hF, fun _ _ _ => rfl, fun x y x0 x1 y0 y1 => ?_⟩
  · rintro M ⟨hF, hM, hJ⟩
    refine V_iload_1 hx dX0_addUpSpans_2 ?_
    refine V_bipush hx dX0_addUpSpans_3 (by decide) ?_
    refine V_icmp_ge (tgt := 95) hx dX0_addUpSpans_5 (by decide) (by omega) (by omega) (fun h5 => ?_) (fun h5 => ?_)
    · refine V_return hx dX0_addUpSpans_95 (by omega) (by omega) ?_
      exact ⟨rfl, rfl, hF, hM, fun x y x0 x1 y0 y1 => by rw [hJ x y x0 x1 y0 y1, cif_t (by omega)]⟩
    · exfalso; omega
  · rintro w M0 hw0 hw1 ⟨hF, hM, hJ⟩ ih
    refine V_iload_1 hx dX0_addUpSpans_2 ?_
    refine V_bipush hx dX0_addUpSpans_3 (by decide) ?_
    refine V_icmp_ge (tgt := 95) hx dX0_addUpSpans_5 (by decide) (by omega) (by omega) (fun h5 => ?_) (fun h5 => ?_)
    · exfalso; omega
    · refine V_iconst hx dX0_addUpSpans_8 ?_
      refine V_istore_2 hx (by first | exact nc_I | exact nc_R | exact nc_n) dX0_addUpSpans_9 ?_
      refine loop_inv (α := Mm) 0 (32 - w) (by omega) (fun a M => Fx M ∧ (∀ a q : Int, a ≠ 20 → M a q = I a q) ∧ ∀ x y : Int, 0 ≤ x → x ≤ 31 → 0 ≤ y → y ≤ 31 → M 20 (x * 32 + y) = cif (y - x < w ∨ (y - x = w ∧ x < a)) (PS g n x y) (PX g n x y)) (fun a M => V x z _ N M 0 0 10 [some (vR z 18), some (vI w), some (vI a), none, none] []) ?_ ?_ M0 ⟨hF, hM, fun x y x0 x1 y0 y1 => by rw [hJ x y x0 x1 y0 y1]; exact cif_iff (by omega)⟩
      · rintro M ⟨hF, hM, hJ⟩
        refine V_iload_2 hx dX0_addUpSpans_10 ?_
        refine V_iload_1 hx dX0_addUpSpans_11 ?_
        refine V_iadd hx dX0_addUpSpans_12 ?_
        refine V_bipush hx dX0_addUpSpans_13 (by decide) ?_
        refine V_icmp_ge (tgt := 89) hx dX0_addUpSpans_15 (by decide) (by omega) (by omega) (fun h15 => ?_) (fun h15 => ?_)
        · refine V_iinc_1 hx (by first | exact nc_I | exact nc_R | exact nc_n) dX0_addUpSpans_89 ?_
          refine V_goto (tgt := 2) hx dX0_addUpSpans_92 (by decide) ?_
          refine V_drop_2 ?_
          exact ih _ ⟨hF, hM, fun x y x0 x1 y0 y1 => by rw [hJ x y x0 x1 y0 y1]; exact cif_iff (by omega)⟩
        · exfalso; omega
      · rintro a M ha0 ha1 ⟨hF, hM, hJ⟩ jh
        have e1 := hJ (a + 1) (a + w) (by omega) (by omega) (by omega) (by omega)
        rw [cif_t (by omega)] at e1
        have e2 := hJ a (a + w - 1) (by omega) (by omega) (by omega) (by omega)
        rw [cif_t (by omega), show a * 32 + (a + w - 1) = a * 32 + (a + w) - 1 by omega] at e2
        have e3 := hJ a (a + w) (by omega) (by omega) (by omega) (by omega)
        rw [cif_f (by omega)] at e3
        have e4 := hJ (a + 1) (a + w - 1) (by omega) (by omega) (by omega) (by omega)
        rw [cif_t (by omega), show (a + 1) * 32 + (a + w - 1) = (a + 1) * 32 + (a + w) - 1 by omega] at e4
        have b1 := PS_b g hn (a + 1) (a + w)
        have b2 := PS_b g hn a (a + w - 1)
        have b3 := PX_b g hn a (a + w)
        have b4 := PS_b g hn (a + 1) (a + w - 1)
        refine V_iload_2 hx dX0_addUpSpans_10 ?_
        refine V_iload_1 hx dX0_addUpSpans_11 ?_
        refine V_iadd hx dX0_addUpSpans_12 ?_
        refine V_bipush hx dX0_addUpSpans_13 (by decide) ?_
        refine V_icmp_ge (tgt := 89) hx dX0_addUpSpans_15 (by decide) (by omega) (by omega) (fun h15 => ?_) (fun h15 => ?_)
        · exfalso; omega
        · refine V_iload_2 hx dX0_addUpSpans_18 ?_
          refine V_iload_1 hx dX0_addUpSpans_19 ?_
          refine V_iadd hx dX0_addUpSpans_20 ?_
          refine V_istore_3 hx (by first | exact nc_I | exact nc_R | exact nc_n) dX0_addUpSpans_21 ?_
          refine V_aload_0 hx dX0_addUpSpans_22 ?_
          refine V_getRe hx flX0_15 dX0_addUpSpans_23 rfl (k18 hN) (hF.1 18 2 20 rfl) ?_
          refine V_iload_2 hx dX0_addUpSpans_26 ?_
          refine V_iconst hx dX0_addUpSpans_27 ?_
          refine V_iadd hx dX0_addUpSpans_28 ?_
          refine V_bipush hx dX0_addUpSpans_29 (by decide) ?_
          refine V_imul hx dX0_addUpSpans_31 ?_
          refine V_iload_3 hx dX0_addUpSpans_32 ?_
          refine V_iadd hx dX0_addUpSpans_33 ?_
          refine V_ialoadx hx hF dX0_addUpSpans_34 (k20 hN) (by decide) (by omega) (fun r34 => ?_)
          refine V_aload_0 hx dX0_addUpSpans_35 ?_
          refine V_getRe hx flX0_15 dX0_addUpSpans_36 rfl (k18 hN) (hF.1 18 2 20 rfl) ?_
          refine V_iload_2 hx dX0_addUpSpans_39 ?_
          refine V_bipush hx dX0_addUpSpans_40 (by decide) ?_
          refine V_imul hx dX0_addUpSpans_42 ?_
          refine V_iload_3 hx dX0_addUpSpans_43 ?_
          refine V_iadd hx dX0_addUpSpans_44 ?_
          refine V_iconst hx dX0_addUpSpans_45 ?_
          refine V_isub hx dX0_addUpSpans_46 ?_
          refine V_ialoadx hx hF dX0_addUpSpans_47 (k20 hN) (by decide) (by omega) (fun r47 => ?_)
          refine V_iadd hx dX0_addUpSpans_48 ?_
          refine V_istore_4 hx (by first | exact nc_I | exact nc_R | exact nc_n) dX0_addUpSpans_49 ?_
          refine V_aload_0 hx dX0_addUpSpans_51 ?_
          refine V_getRe hx flX0_15 dX0_addUpSpans_52 rfl (k18 hN) (hF.1 18 2 20 rfl) ?_
          refine V_iload_2 hx dX0_addUpSpans_55 ?_
          refine V_bipush hx dX0_addUpSpans_56 (by decide) ?_
          refine V_imul hx dX0_addUpSpans_58 ?_
          refine V_iload_3 hx dX0_addUpSpans_59 ?_
          refine V_iadd hx dX0_addUpSpans_60 ?_
          refine V_dup2 hx dX0_addUpSpans_61 ?_
          refine V_ialoadx hx hF dX0_addUpSpans_62 (k20 hN) (by decide) (by omega) (fun r62 => ?_)
          refine V_iload_4 hx dX0_addUpSpans_63 ?_
          refine V_aload_0 hx dX0_addUpSpans_65 ?_
          refine V_getRe hx flX0_15 dX0_addUpSpans_66 rfl (k18 hN) (hF.1 18 2 20 rfl) ?_
          refine V_iload_2 hx dX0_addUpSpans_69 ?_
          refine V_iconst hx dX0_addUpSpans_70 ?_
          refine V_iadd hx dX0_addUpSpans_71 ?_
          refine V_bipush hx dX0_addUpSpans_72 (by decide) ?_
          refine V_imul hx dX0_addUpSpans_74 ?_
          refine V_iload_3 hx dX0_addUpSpans_75 ?_
          refine V_iadd hx dX0_addUpSpans_76 ?_
          refine V_iconst hx dX0_addUpSpans_77 ?_
          refine V_isub hx dX0_addUpSpans_78 ?_
          refine V_ialoadx hx hF dX0_addUpSpans_79 (k20 hN) (by decide) (by omega) (fun r79 => ?_)
          refine V_isub hx dX0_addUpSpans_80 ?_
          refine V_iadd hx dX0_addUpSpans_81 ?_
          refine V_iastorex hx hF dX0_addUpSpans_82 (k20 hN) (by decide) (by omega) (fx_none rfl _) (by omega) (Or.inl (by decide)) (fun hF => ?_)
          refine V_iinc_2 hx (by first | exact nc_I | exact nc_R | exact nc_n) dX0_addUpSpans_83 ?_
          refine V_goto (tgt := 10) hx dX0_addUpSpans_86 (by decide) ?_
          refine V_drop_3 ?_
          refine V_drop_4 ?_
          refine jh _ ⟨hF, fun a q ha => by rw [up_c ha]; exact hM a q ha, fun x y x0 x1 y0 y1 => ?_⟩
          by_cases c : x = a ∧ y = a + w
          · rw [c.1, c.2, up_s, cif_t (by omega)]
            have hr := PS_rec g n (x := a) (y := a + w) (by omega)
            omega
          · rw [up_k (by omega), hJ x y x0 x1 y0 y1]
            exact cif_iff (by omega)
  · rw [hP x y x0 x1 y0 y1]
    by_cases c : y - x < 1
    · rw [cif_t c, PX_z g n (by omega), PS_z g n (by omega)]
    · rw [cif_f c]

set_option maxRecDepth 8000 in
theorem c_X0_addHeap {l : Launch} {d : Dd} {z : Nat} {N : Int} {I : Mm} {B : Int → Int} {S : Int → Int → Int} (hN : 67 ≤ N) (hF : Fx I) (hB : ∀ q : Int, 0 ≤ q → q ≤ 31 → I 21 q = B q) (hBb : ∀ q : Int, 0 ≤ q → q ≤ 31 → 0 ≤ B q ∧ B q ≤ 600) (hSS : ∀ x y : Int, 0 ≤ x → x ≤ 31 → 0 ≤ y → y ≤ 31 → I 20 (x * 32 + y) = S x y) (hSb : ∀ x y : Int, 0 ≤ x → x ≤ 31 → 0 ≤ y → y ≤ 31 → 0 ≤ S x y ∧ S x y ≤ 600) : Cn l d z yX0_addHeap cX0_addHeap 3 none 1 21 0 0 [vR z 18] N I (pN (fun N' I' => N' = N ∧ Fx I' ∧ (∀ a q : Int, a ≠ 21 → I' a q = I a q) ∧ ∀ q : Int, 0 ≤ q → q ≤ 31 → I' 21 q = mnH B S q q.toNat)) := by
  refine Cn.ofA [(vR z 18, false)] [some (vR z 18), none, none] RX0 (by decide) rfl ⟨cR z 18, trivial⟩ (Nat.le_of_ble_eq_true rfl) rfl (fun x ed el hx hini => ?_)
  refine V_bipush hx dX0_addHeap_0 (by decide) ?_
  refine V_istore_1 hx (by first | exact nc_I | exact nc_R | exact nc_n) dX0_addHeap_2 ?_
  rw [show (31 : Int) = 31 - 0 by omega]
  refine loop_inv (α := Mm) 0 31 (by decide) (fun c M => Fx M ∧ (∀ a q : Int, a ≠ 21 → M a q = I a q) ∧ ∀ q : Int, 0 ≤ q → q ≤ 31 → M 21 q = cif (31 - c < q) (mnH B S q q.toNat) (B q)) (fun c M => V x z _ N M 0 0 3 [some (vR z 18), some (vI (31 - c)), none] []) ?_ ?_ I ⟨hF, fun _ _ _ => rfl, fun q q0 q1 => by rw [cif_f (by omega)]; exact hB q q0 q1⟩
  · rintro M ⟨hF, hM, hJ⟩
    refine V_iload_1 hx dX0_addHeap_3 ?_
    refine V_if_le (tgt := 61) hx dX0_addHeap_4 (by decide) (by omega) (fun h4 => ?_) (fun h4 => ?_)
    · refine V_return hx dX0_addHeap_61 (by omega) (by omega) ?_
      refine ⟨rfl, rfl, hF, hM, fun q q0 q1 => ?_⟩
      rw [hJ q q0 q1]
      by_cases c : q = 0
      · rw [c, cif_f (by omega)]; rfl
      · rw [cif_t (by omega)]
    · exfalso; omega
  · rintro c M0 hc0 hc1 ⟨hF, hM, hJ⟩ ih
    refine V_iload_1 hx dX0_addHeap_3 ?_
    refine V_if_le (tgt := 61) hx dX0_addHeap_4 (by decide) (by omega) (fun h4 => ?_) (fun h4 => ?_)
    · exfalso; omega
    · refine V_iconst hx dX0_addHeap_7 ?_
      refine V_istore_2 hx (by first | exact nc_I | exact nc_R | exact nc_n) dX0_addHeap_8 ?_
      rw [show (1 : Int) = 0 + 1 by omega]
      refine loop_inv (α := Mm) 0 (31 - c) (by omega) (fun j M => Fx M ∧ (∀ a q : Int, a ≠ 21 → M a q = I a q) ∧ ∀ q : Int, 0 ≤ q → q ≤ 31 → M 21 q = cif (31 - c < q) (mnH B S q q.toNat) (cif (q = 31 - c) (mnH B S q j.toNat) (B q))) (fun j M => V x z _ N M 0 0 9 [some (vR z 18), some (vI (31 - c)), some (vI (j + 1))] []) ?_ ?_ M0 ⟨hF, hM, fun q q0 q1 => ?_⟩
      · rintro M ⟨hF, hM, hJ⟩
        refine V_iload_2 hx dX0_addHeap_9 ?_
        refine V_iload_1 hx dX0_addHeap_10 ?_
        refine V_icmp_gt (tgt := 55) hx dX0_addHeap_11 (by decide) (by omega) (by omega) (fun h11 => ?_) (fun h11 => ?_)
        · refine V_iinc_1 hx (by first | exact nc_I | exact nc_R | exact nc_n) dX0_addHeap_55 ?_
          refine V_goto (tgt := 3) hx dX0_addHeap_58 (by decide) ?_
          refine V_drop_2 ?_
          rw [show 31 - c + -1 = 31 - (c + 1) by omega]
          refine ih _ ⟨hF, hM, fun q q0 q1 => ?_⟩
          rw [hJ q q0 q1]
          by_cases k1 : 31 - c < q
          · rw [cif_t k1, cif_t (by omega)]
          · rw [cif_f k1]
            by_cases k2 : q = 31 - c
            · rw [cif_t k2, cif_t (by omega), k2]
            · rw [cif_f k2, cif_f (by omega)]
        · exfalso; omega
      · rintro j M hj0 hj1 ⟨hF, hM, hJ⟩ jh
        have eb := hJ (31 - c) (by omega) (by omega)
        rw [cif_f (by omega), cif_t rfl] at eb
        have ea := hJ (j + 1 - 1) (by omega) (by omega)
        rw [cif_f (by omega), cif_f (by omega), show j + 1 - 1 = j by omega] at ea
        have ea1 : M 21 (j + 1 - 1) = B j := by rw [show j + 1 - 1 = j by omega]; exact ea
        have es := hM 20 ((j + 1) * 32 + (31 - c)) (by decide)
        have hs1 := hSS (j + 1) (31 - c) (by omega) (by omega) (by omega) (by omega)
        have hs2 := hSb (j + 1) (31 - c) (by omega) (by omega) (by omega) (by omega)
        have hb1 := hBb j (by omega) (by omega)
        have hb2 := mnH_b (B := B) (S := S) (b := 31 - c) (fun q q0 q1 => hBb q q0 (by omega)) (fun q q0 q1 => hSb q (31 - c) q0 (by omega) (by omega) (by omega)) (by omega) j.toNat (by omega)
        refine V_iload_2 hx dX0_addHeap_9 ?_
        refine V_iload_1 hx dX0_addHeap_10 ?_
        refine V_icmp_gt (tgt := 55) hx dX0_addHeap_11 (by decide) (by omega) (by omega) (fun h11 => ?_) (fun h11 => ?_)
        · exfalso; omega
        · refine V_aload_0 hx dX0_addHeap_14 ?_
          refine V_getRe hx flX0_18 dX0_addHeap_15 rfl (k18 hN) (hF.1 18 3 21 rfl) ?_
          refine V_iload_1 hx dX0_addHeap_18 ?_
          refine V_aload_0 hx dX0_addHeap_19 ?_
          refine V_getRe hx flX0_18 dX0_addHeap_20 rfl (k18 hN) (hF.1 18 3 21 rfl) ?_
          refine V_iload_1 hx dX0_addHeap_23 ?_
          refine V_ialoadx hx hF dX0_addHeap_24 (k21 hN) (by decide) (by omega) (fun r24 => ?_)
          refine V_aload_0 hx dX0_addHeap_25 ?_
          refine V_getRe hx flX0_18 dX0_addHeap_26 rfl (k18 hN) (hF.1 18 3 21 rfl) ?_
          refine V_iload_2 hx dX0_addHeap_29 ?_
          refine V_iconst hx dX0_addHeap_30 ?_
          refine V_isub hx dX0_addHeap_31 ?_
          skip
          refine V_ialoadx hx hF dX0_addHeap_32 (k21 hN) (by decide) (by omega) (fun r32 => ?_)
          refine V_aload_0 hx dX0_addHeap_33 ?_
          refine V_getRe hx flX0_15 dX0_addHeap_34 rfl (k18 hN) (hF.1 18 2 20 rfl) ?_
          refine V_iload_2 hx dX0_addHeap_37 ?_
          refine V_bipush hx dX0_addHeap_38 (by decide) ?_
          refine V_imul hx dX0_addHeap_40 ?_
          refine V_iload_1 hx dX0_addHeap_41 ?_
          refine V_iadd hx dX0_addHeap_42 ?_
          refine V_ialoadx hx hF dX0_addHeap_43 (k20 hN) (by decide) (by omega) (fun r43 => ?_)
          refine V_iadd hx dX0_addHeap_44 ?_
          refine V_s2Q hx el ed (c_J9_min_7cf53 (by omega) (by omega)) myJ9_min_7cf53 mlX0_40 dX0_addHeap_45 (by decide) (by omega) rfl (by first | exact Nat.le_of_ble_eq_true rfl | simp [vI, vL, vR_cat, Value.category]) (fun r45 => ?_)
          refine V_iastorex hx hF dX0_addHeap_48 (k21 hN) (by decide) (by omega) (fx_none rfl _) (by omega) (Or.inl (by decide)) (fun hF => ?_)
          refine V_iinc_2 hx (by first | exact nc_I | exact nc_R | exact nc_n) dX0_addHeap_49 ?_
          refine V_goto (tgt := 9) hx dX0_addHeap_52 (by decide) ?_
          refine jh _ ⟨hF, fun a q ha => by rw [up_c ha]; exact hM a q ha, fun q q0 q1 => ?_⟩
          by_cases k2 : q = 31 - c
          · rw [k2, up_s, cif_f (by omega), cif_t rfl, mnH_s _ _ _ hj0, eb, ea1, es, ← hSS (j + 1) (31 - c) (by omega) (by omega) (by omega) (by omega)]
          · rw [up_k k2, hJ q q0 q1]
            by_cases k1 : 31 - c < q
            · rw [cif_t k1, cif_t k1]
            · rw [cif_f k1, cif_f k1, cif_f k2, cif_f k2]
      · rw [hJ q q0 q1]
        by_cases k1 : 31 - c < q
        · rw [cif_t k1, cif_t k1]
        · rw [cif_f k1, cif_f k1]
          by_cases k2 : q = 31 - c
          · rw [cif_t k2]; rfl
          · rw [cif_f k2]

set_option maxRecDepth 8000 in
theorem c_X0_bestCut {l : Launch} {d : Dd} {z : Nat} {N : Int} {I : Mm} {k : Int} (hN : 67 ≤ N) (hF : Fx I) (hH : HpC I) (hk : 1 ≤ k ∧ k ≤ 8) : Cn l d z yX0_bestCut cX0_bestCut 3 (some .int) 2 45 0 0 [vR z 18, vI k] N I (pI (fun r N' I' => N' = N ∧ Fx I' ∧ r = bcv (I 19) (I 18 1).toNat (k - 1).toNat 31 ∧ ∀ a q : Int, a ≠ 20 → a ≠ 21 → I' a q = I a q)) := by
  refine Cn.ofA [(vR z 18, false), (vI k, false)] [some (vR z 18), some (vI k), none] RX0 (by decide) rfl ⟨cR z 18, rfl, trivial⟩ (Nat.le_of_ble_eq_true rfl) rfl (fun x ed el hx hini => ?_)
  have hl := hH.1
  refine V_aload_0 hx dX0_bestCut_0 ?_
  refine V_v0N hx el ed (c_X0_countPairs hN hF hH) myX0_countPairs mlX0_25 dX0_bestCut_1 ⟨_, rfl, rfl⟩ (k18 hN) (by decide) (by omega) rfl (by first | exact Nat.le_of_ble_eq_true rfl | simp [vI, vL, vR_cat, Value.category]) (fun N1 I1 ⟨eN, hF, f1, p1⟩ => ?_)
  subst eN
  refine V_aload_0 hx dX0_bestCut_4 ?_
  refine V_v0N hx el ed (c_X0_addUpSpans (g := I 19) (n := (I 18 1).toNat) hN hF (by omega) p1) myX0_addUpSpans mlX0_28 dX0_bestCut_5 ⟨_, rfl, rfl⟩ (k18 hN) (by decide) (by omega) rfl (by first | exact Nat.le_of_ble_eq_true rfl | simp [vI, vL, vR_cat, Value.category]) (fun N2 I2 ⟨eN, hF, f2, p2⟩ => ?_)
  subst eN
  refine V_iconst hx dX0_bestCut_8 ?_
  refine V_istore_2 hx (by first | exact nc_I | exact nc_R | exact nc_n) dX0_bestCut_9 ?_
  refine loop_inv (α := Mm) 0 32 (by decide) (fun b M => Fx M ∧ (∀ a q : Int, a ≠ 20 → a ≠ 21 → M a q = I a q) ∧ (∀ x y : Int, 0 ≤ x → x ≤ 31 → 0 ≤ y → y ≤ 31 → M 20 (x * 32 + y) = PS (I 19) (I 18 1).toNat x y) ∧ ∀ q : Int, 0 ≤ q → q < b → M 21 q = bcv (I 19) (I 18 1).toNat 0 q) (fun b M => V x z _ _ M 0 0 10 [some (vR z 18), some (vI k), some (vI b)] []) ?_ ?_ I2 ⟨hF, fun a q h20 h21 => by rw [f2 a q h20, f1 a q h20], p2, fun q q0 q1 => by omega⟩
  · rintro M0 ⟨hF, hM, hP, hJ⟩
    refine V_iload_2 hx dX0_bestCut_10 ?_
    refine V_bipush hx dX0_bestCut_11 (by decide) ?_
    refine V_icmp_ge (tgt := 34) hx dX0_bestCut_13 (by decide) (by omega) (by omega) (fun h13 => ?_) (fun h13 => ?_)
    · refine V_iconst hx dX0_bestCut_34 ?_
      refine V_istore_2 hx (by first | exact nc_I | exact nc_R | exact nc_n) dX0_bestCut_35 ?_
      refine loop_inv (α := Mm) 2 (k + 1) (by omega) (fun h M => Fx M ∧ (∀ a q : Int, a ≠ 20 → a ≠ 21 → M a q = I a q) ∧ (∀ x y : Int, 0 ≤ x → x ≤ 31 → 0 ≤ y → y ≤ 31 → M 20 (x * 32 + y) = PS (I 19) (I 18 1).toNat x y) ∧ ∀ q : Int, 0 ≤ q → q ≤ 31 → M 21 q = bcv (I 19) (I 18 1).toNat (h - 2).toNat q) (fun h M => V x z _ _ M 0 0 36 [some (vR z 18), some (vI k), some (vI h)] []) ?_ ?_ M0 ⟨hF, hM, hP, fun q q0 q1 => hJ q q0 (by omega)⟩
      · rintro M ⟨hF, hM2, hP2, hJ2⟩
        refine V_iload_2 hx dX0_bestCut_36 ?_
        refine V_iload_1 hx dX0_bestCut_37 ?_
        refine V_icmp_gt (tgt := 51) hx dX0_bestCut_38 (by decide) (by omega) (by omega) (fun h38 => ?_) (fun h38 => ?_)
        · refine V_aload_0 hx dX0_bestCut_51 ?_
          refine V_getRe hx flX0_18 dX0_bestCut_52 rfl (k18 hN) (hF.1 18 3 21 rfl) ?_
          refine V_bipush hx dX0_bestCut_55 (by decide) ?_
          refine V_ialoadx hx hF dX0_bestCut_57 (k21 hN) (by decide) (by omega) (fun r57 => ?_)
          refine V_ireturn hx dX0_bestCut_58 (by omega) (by omega) ?_
          exact ⟨_, rfl, rfl, hF, by rw [hJ2 31 (by omega) (by omega), show k + 1 - 2 = k - 1 by omega], hM2⟩
        · exfalso; omega
      · rintro h M hh0 hh1 ⟨hF, hM2, hP2, hJ2⟩ ih2
        refine V_iload_2 hx dX0_bestCut_36 ?_
        refine V_iload_1 hx dX0_bestCut_37 ?_
        refine V_icmp_gt (tgt := 51) hx dX0_bestCut_38 (by decide) (by omega) (by omega) (fun h38 => ?_) (fun h38 => ?_)
        · exfalso; omega
        · refine V_aload_0 hx dX0_bestCut_41 ?_
          refine V_v0N hx el ed (c_X0_addHeap (B := bcv (I 19) (I 18 1).toNat (h - 2).toNat) (S := PS (I 19) (I 18 1).toNat) hN hF hJ2 (fun q q0 q1 => bcv_b _ (by omega) _ q q0) hP2 (fun x y x0 x1 y0 y1 => by have := PS_b (I 19) (n := (I 18 1).toNat) (by omega) x y; omega)) myX0_addHeap mlX0_31 dX0_bestCut_42 ⟨_, rfl, rfl⟩ (k18 hN) (by decide) (by omega) rfl (by first | exact Nat.le_of_ble_eq_true rfl | simp [vI, vL, vR_cat, Value.category]) (fun N3 I3 ⟨eN, hF, f3, p3⟩ => ?_)
          subst eN
          refine V_iinc_2 hx (by first | exact nc_I | exact nc_R | exact nc_n) dX0_bestCut_45 ?_
          refine V_goto (tgt := 36) hx dX0_bestCut_48 (by decide) ?_
          refine ih2 _ ⟨hF, fun a q h20 h21 => by rw [f3 a q h21]; exact hM2 a q h20 h21, fun x y x0 x1 y0 y1 => by rw [f3 20 _ (by decide)]; exact hP2 x y x0 x1 y0 y1, fun q q0 q1 => ?_⟩
          rw [p3 q q0 q1, show (h + 1 - 2).toNat = (h - 2).toNat + 1 by omega]
          rfl
    · exfalso; omega
  · rintro b M hb0 hb1 ⟨hF, hM, hP, hJ⟩ ih
    refine V_iload_2 hx dX0_bestCut_10 ?_
    refine V_bipush hx dX0_bestCut_11 (by decide) ?_
    refine V_icmp_ge (tgt := 34) hx dX0_bestCut_13 (by decide) (by omega) (by omega) (fun h13 => ?_) (fun h13 => ?_)
    · exfalso; omega
    · refine V_aload_0 hx dX0_bestCut_16 ?_
      refine V_getRe hx flX0_18 dX0_bestCut_17 rfl (k18 hN) (hF.1 18 3 21 rfl) ?_
      refine V_iload_2 hx dX0_bestCut_20 ?_
      refine V_aload_0 hx dX0_bestCut_21 ?_
      refine V_getRe hx flX0_15 dX0_bestCut_22 rfl (k18 hN) (hF.1 18 2 20 rfl) ?_
      refine V_iload_2 hx dX0_bestCut_25 ?_
      refine V_ialoadx hx hF dX0_bestCut_26 (k20 hN) (by decide) (by omega) (fun r26 => ?_)
      refine V_iastorex hx hF dX0_bestCut_27 (k21 hN) (by decide) (by omega) (fx_none rfl _) (by omega) (Or.inl (by decide)) (fun hF => ?_)
      refine V_iinc_2 hx (by first | exact nc_I | exact nc_R | exact nc_n) dX0_bestCut_28 ?_
      refine V_goto (tgt := 10) hx dX0_bestCut_31 (by decide) ?_
      refine ih _ ⟨hF, fun a q h20 h21 => by rw [up_c h21]; exact hM a q h20 h21, fun x y x0 x1 y0 y1 => by rw [up_c (by decide)]; exact hP x y x0 x1 y0 y1, fun q q0 q1 => ?_⟩
      by_cases c : q = b
      · rw [c, up_s]
        have := hP 0 b (by omega) (by omega) (by omega) (by omega)
        rw [show (0 : Int) * 32 + b = b by omega] at this
        rw [this]; rfl
      · rw [up_k c]; exact hJ q q0 (by omega)

