set_option maxRecDepth 8000 in
theorem c_X11_isIn {l : Launch} {d : Dd} {z : Nat} {N : Int} {I : Mm} {s0 : Int} (hN : 67 ≤ N) (hF : Fx I) (hm : 0 ≤ I 49 6 ∧ I 49 6 ≤ 1000) (hh : 0 ≤ s0 ∧ s0 ≤ 7) : Cn l d z yX11_isIn cX11_isIn 4 (some .boolean) 1 22 0 0 [vR z 49, vI s0] N I (pv (vB (isInS I s0)) N I) := by
  refine Cn.ofA [(vR z 49, false), (vI s0, false)] [some (vR z 49), some (vI s0), none, none] RX11 (by decide) rfl ⟨cR z 49, rfl, trivial⟩ (Nat.le_of_ble_eq_true rfl) rfl (fun x ed el hx hini => ?_)
  have LOOP : ∀ s : Int, (s = 0 ∧ ¬ 0 < I 54 s0) ∨ (s = 1 ∧ 0 < I 54 s0) → V x z (pv (vB (isInS I s0)) N I) N I 0 0 17 [some (vR z 49), some (vI s0), some (vI s), some (vI 0)] [] := by
    intro s hs0
    refine loop_inv (α := Int) 0 (I 49 6) hm.1 (fun i s => (s = 0 ∧ ¬ 0 < I 54 s0 ∧ ¬ anyW (fun w => I 55 (13 * w + 9) = 0 ∧ I 55 (13 * w + 6) = s0) i) ∨ (s = 1 ∧ isInS I s0)) (fun i s => V x z _ N I 0 0 17 [some (vR z 49), some (vI s0), some (vI s), some (vI i)] []) ?_ ?_ s (by rcases hs0 with ⟨h1, h2⟩ | ⟨h1, h2⟩; exact Or.inl ⟨h1, h2, anyW_0⟩; exact Or.inr ⟨h1, Or.inl h2⟩)
    · intro s hJ
      have hs : s = 0 ∨ s = 1 := by rcases hJ with h | h <;> omega
      refine V_iload_3 hx dX11_isIn_17 ?_
      refine V_aload_0 hx dX11_isIn_18 ?_
      refine V_getIx 6 hx hF flX11_96 dX11_isIn_19 rfl rfl (k49 hN) (fun r19 => ?_)
      refine V_icmp_ge (tgt := 62) hx dX11_isIn_22 (by decide) (by omega) (by omega) (fun h22 => ?_) (fun h22 => ?_)
      · refine V_iload_2 hx dX11_isIn_62 ?_
        refine V_zreturn hx dX11_isIn_63 (by first | omega | exact cif01 _) (by omega) (by omega) ?_
        rcases hJ with ⟨rfl, hJ1, hJ2⟩ | ⟨rfl, hJ⟩
        · exact ⟨by rw [vB_f (fun q => q.elim hJ1 hJ2)], rfl, rfl⟩
        · exact ⟨by rw [vB_t hJ], rfl, rfl⟩
      · exfalso; omega
    · intro i s hi0 hi1 hJ ih
      have hs : s = 0 ∨ s = 1 := by rcases hJ with h | h <;> omega
      refine V_iload_3 hx dX11_isIn_17 ?_
      refine V_aload_0 hx dX11_isIn_18 ?_
      refine V_getIx 6 hx hF flX11_96 dX11_isIn_19 rfl rfl (k49 hN) (fun r19 => ?_)
      refine V_icmp_ge (tgt := 62) hx dX11_isIn_22 (by decide) (by omega) (by omega) (fun h22 => ?_) (fun h22 => ?_)
      · refine V_iload_2 hx dX11_isIn_62 ?_
        refine V_zreturn hx dX11_isIn_63 (by first | omega | exact cif01 _) (by omega) (by omega) ?_
        rcases hJ with ⟨h, hJ⟩ | ⟨h, hJ⟩
        · exfalso; omega
        · subst h; exact ⟨by rw [vB_t hJ], rfl, rfl⟩
      · refine V_iload_2 hx dX11_isIn_25 ?_
        refine V_if_ne (tgt := 62) hx dX11_isIn_26 (by decide) (by omega) (fun h26 => ?_) (fun h26 => ?_)
        · refine V_iload_2 hx dX11_isIn_62 ?_
          refine V_zreturn hx dX11_isIn_63 (by first | omega | exact cif01 _) (by omega) (by omega) ?_
          rcases hJ with ⟨h, hJ⟩ | ⟨h, hJ⟩
          · exfalso; omega
          · subst h; exact ⟨by rw [vB_t hJ], rfl, rfl⟩
        · refine V_aload_0 hx dX11_isIn_29 ?_
          refine V_iload_3 hx dX11_isIn_30 ?_
          refine V_bipush hx dX11_isIn_31 (by decide) ?_
          refine V_v2Q hx el ed (c_X11_of hN hF (by omega)) myX11_of mlX11_99 dX11_isIn_33 ⟨_, rfl, rfl⟩ (k49 hN) (by decide) (by omega) rfl (by first | exact Nat.le_of_ble_eq_true rfl | simp [vI, vL, vR_cat, Value.category]) (fun r33 => ?_)
          refine V_if_ne (tgt := 54) hx dX11_isIn_36 (by decide) (by omega) (fun h36 => ?_) (fun h36 => ?_)
          · refine V_iconst hx dX11_isIn_54 ?_
            refine V_istore_2 hx (by first | exact nc_I | exact nc_R | exact nc_n) dX11_isIn_55 ?_
            refine V_iinc_3 hx (by first | exact nc_I | exact nc_R | exact nc_n) dX11_isIn_56 ?_
            refine V_goto (tgt := 17) hx dX11_isIn_59 (by decide) ?_
            first | exact ih 1 (Or.inr ⟨rfl, Or.inr ⟨i, hi0, hi1, by omega, by omega⟩⟩) | exact ih 0 (Or.inl ⟨rfl, by rcases hJ with h | h; exact h.2.1; omega, fun q => by rcases (anyW_s hi0).mp q with q | q; (rcases hJ with h | h; exact h.2.2 q; omega); omega⟩)
          · refine V_aload_0 hx dX11_isIn_39 ?_
            refine V_iload_3 hx dX11_isIn_40 ?_
            refine V_bipush hx dX11_isIn_41 (by decide) ?_
            refine V_v2Q hx el ed (c_X11_of hN hF (by omega)) myX11_of mlX11_99 dX11_isIn_43 ⟨_, rfl, rfl⟩ (k49 hN) (by decide) (by omega) rfl (by first | exact Nat.le_of_ble_eq_true rfl | simp [vI, vL, vR_cat, Value.category]) (fun r43 => ?_)
            refine V_iload_1 hx dX11_isIn_46 ?_
            refine V_icmp_ne (tgt := 54) hx dX11_isIn_47 (by decide) (by omega) (by omega) (fun h47 => ?_) (fun h47 => ?_)
            · refine V_iconst hx dX11_isIn_54 ?_
              refine V_istore_2 hx (by first | exact nc_I | exact nc_R | exact nc_n) dX11_isIn_55 ?_
              refine V_iinc_3 hx (by first | exact nc_I | exact nc_R | exact nc_n) dX11_isIn_56 ?_
              refine V_goto (tgt := 17) hx dX11_isIn_59 (by decide) ?_
              first | exact ih 1 (Or.inr ⟨rfl, Or.inr ⟨i, hi0, hi1, by omega, by omega⟩⟩) | exact ih 0 (Or.inl ⟨rfl, by rcases hJ with h | h; exact h.2.1; omega, fun q => by rcases (anyW_s hi0).mp q with q | q; (rcases hJ with h | h; exact h.2.2 q; omega); omega⟩)
            · refine V_iconst hx dX11_isIn_50 ?_
              refine V_goto (tgt := 55) hx dX11_isIn_51 (by decide) ?_
              refine V_istore_2 hx (by first | exact nc_I | exact nc_R | exact nc_n) dX11_isIn_55 ?_
              refine V_iinc_3 hx (by first | exact nc_I | exact nc_R | exact nc_n) dX11_isIn_56 ?_
              refine V_goto (tgt := 17) hx dX11_isIn_59 (by decide) ?_
              first | exact ih 1 (Or.inr ⟨rfl, Or.inr ⟨i, hi0, hi1, by omega, by omega⟩⟩) | exact ih 0 (Or.inl ⟨rfl, by rcases hJ with h | h; exact h.2.1; omega, fun q => by rcases (anyW_s hi0).mp q with q | q; (rcases hJ with h | h; exact h.2.2 q; omega); omega⟩)
  refine V_aload_0 hx dX11_isIn_0 ?_
  refine V_getRe hx flX11_22 dX11_isIn_1 rfl (k49 hN) (hF.1 49 4 54 rfl) ?_
  refine V_iload_1 hx dX11_isIn_4 ?_
  refine V_ialoadx hx hF dX11_isIn_5 (k54 hN) (by decide) (by omega) (fun r5 => ?_)
  refine V_if_le (tgt := 13) hx dX11_isIn_6 (by decide) (by omega) (fun h6 => ?_) (fun h6 => ?_)
  · refine V_iconst hx dX11_isIn_13 ?_
    refine V_istore_2 hx (by first | exact nc_I | exact nc_R | exact nc_n) dX11_isIn_14 ?_
    refine V_iconst hx dX11_isIn_15 ?_
    refine V_istore_3 hx (by first | exact nc_I | exact nc_R | exact nc_n) dX11_isIn_16 ?_
    first | exact LOOP 1 (Or.inr ⟨rfl, by omega⟩) | exact LOOP 0 (Or.inl ⟨rfl, by omega⟩)
  · refine V_iconst hx dX11_isIn_9 ?_
    refine V_goto (tgt := 14) hx dX11_isIn_10 (by decide) ?_
    refine V_istore_2 hx (by first | exact nc_I | exact nc_R | exact nc_n) dX11_isIn_14 ?_
    refine V_iconst hx dX11_isIn_15 ?_
    refine V_istore_3 hx (by first | exact nc_I | exact nc_R | exact nc_n) dX11_isIn_16 ?_
    first | exact LOOP 1 (Or.inr ⟨rfl, by omega⟩) | exact LOOP 0 (Or.inl ⟨rfl, by omega⟩)

theorem ofM_b {I : Mm} (hm : 0 ≤ I 49 6 ∧ I 49 6 ≤ 1000) : ∀ n : Nat, n ≤ 8 → let q := fld (fun (acc : Int × Int) i => cif (acc.1 < cntW (fun w => I 55 (13 * w + 9) = 0 ∧ I 55 (13 * w + 6) = i) (I 49 6).toNat) (cntW (fun w => I 55 (13 * w + 9) = 0 ∧ I 55 (13 * w + 6) = i) (I 49 6).toNat, lstW (fun w => I 55 (13 * w + 9) = 0 ∧ I 55 (13 * w + 6) = i) (I 49 6).toNat) acc) (-4, -4) n; -4 ≤ q.1 ∧ q.1 ≤ 1000 ∧ -4 ≤ q.2 ∧ q.2 ≤ 1000
  | 0, _ => by dsimp only [fld]; omega
  | n + 1, h => by
    have ih := ofM_b hm n (by omega)
    dsimp only at ih ⊢
    rw [fld]
    by_cases hc : (fld (fun (acc : Int × Int) i => cif (acc.1 < cntW (fun w => I 55 (13 * w + 9) = 0 ∧ I 55 (13 * w + 6) = i) (I 49 6).toNat) (cntW (fun w => I 55 (13 * w + 9) = 0 ∧ I 55 (13 * w + 6) = i) (I 49 6).toNat, lstW (fun w => I 55 (13 * w + 9) = 0 ∧ I 55 (13 * w + 6) = i) (I 49 6).toNat) acc) (-4, -4) n).1 < cntW (fun w => I 55 (13 * w + 9) = 0 ∧ I 55 (13 * w + 6) = (n : Int)) (I 49 6).toNat
    · rw [cif_t hc]
      have h1 := cntW_b (fun w => I 55 (13 * w + 9) = 0 ∧ I 55 (13 * w + 6) = (n : Int)) (I 49 6).toNat
      have h2 := lstW_r (fun w => I 55 (13 * w + 9) = 0 ∧ I 55 (13 * w + 6) = (n : Int)) (I 49 6).toNat
      dsimp only
      rcases h2 with ⟨h2, -⟩ | ⟨h2, h3, -⟩ <;> omega
    · rw [cif_f hc]
      exact ih
theorem ofM_i {I : Mm} (hm : 0 ≤ I 49 6 ∧ I 49 6 ≤ 1000) : -2147483648 ≤ (ofM I).2 ∧ (ofM I).2 ≤ 2147483647 := by
  have h := ofM_b hm 8 (Nat.le_refl _)
  dsimp only at h
  have e : ofM I = fld (fun (acc : Int × Int) i => cif (acc.1 < cntW (fun w => I 55 (13 * w + 9) = 0 ∧ I 55 (13 * w + 6) = i) (I 49 6).toNat) (cntW (fun w => I 55 (13 * w + 9) = 0 ∧ I 55 (13 * w + 6) = i) (I 49 6).toNat, lstW (fun w => I 55 (13 * w + 9) = 0 ∧ I 55 (13 * w + 6) = i) (I 49 6).toNat) acc) (-4, -4) 8 := rfl
  rw [e]
  omega

set_option maxRecDepth 8000 in
theorem c_X11_ofMost {l : Launch} {d : Dd} {z : Nat} {N : Int} {I : Mm} (hN : 67 ≤ N) (hF : Fx I) (hm : 0 ≤ I 49 6 ∧ I 49 6 ≤ 1000) : Cn l d z yX11_ofMost cX11_ofMost 7 (some .int) 1 22 0 0 [vR z 49] N I (pq (ofM I).2 N I) := by
  refine Cn.ofA [(vR z 49, false)] [some (vR z 49), none, none, none, none, none, none] RX11 (by decide) rfl ⟨cR z 49, trivial⟩ (Nat.le_of_ble_eq_true rfl) rfl (fun x ed el hx hini => ?_)
  refine V_bipush hx dX11_ofMost_0 (by decide) ?_
  refine V_istore_1 hx (by first | exact nc_I | exact nc_R | exact nc_n) dX11_ofMost_2 ?_
  refine V_bipush hx dX11_ofMost_3 (by decide) ?_
  refine V_istore_2 hx (by first | exact nc_I | exact nc_R | exact nc_n) dX11_ofMost_5 ?_
  refine V_iconst hx dX11_ofMost_6 ?_
  refine V_istore_3 hx (by first | exact nc_I | exact nc_R | exact nc_n) dX11_ofMost_7 ?_
  refine loop_fld (fun acc i => cif (acc.1 < cntW (fun w => I 55 (13 * w + 9) = 0 ∧ I 55 (13 * w + 6) = i) (I 49 6).toNat) (cntW (fun w => I 55 (13 * w + 9) = 0 ∧ I 55 (13 * w + 6) = i) (I 49 6).toNat, lstW (fun w => I 55 (13 * w + 9) = 0 ∧ I 55 (13 * w + 6) = i) (I 49 6).toNat) acc) (-4, -4) 8 (by omega) (fun i acc => V x z _ N I 0 0 8 [some (vR z 49), some (vI acc.1), some (vI acc.2), some (vI i), none, none, none] []) ?_ ?_
  · refine V_iload_3 hx dX11_ofMost_8 ?_
    refine V_bipush hx dX11_ofMost_9 (by decide) ?_
    refine V_icmp_ge (tgt := 87) hx dX11_ofMost_11 (by decide) (by omega) (by omega) (fun h11 => ?_) (fun h11 => ?_)
    · refine V_iload_2 hx dX11_ofMost_87 ?_
      refine V_ireturn hx dX11_ofMost_88 (by omega) (by omega) ?_
      refine ⟨rfl, rfl, rfl, ?_⟩
      exact ofM_i hm
    · exfalso; omega
  · intro i hi0 hi1 ih
    have hb := ofM_b hm i.toNat (by omega)
    generalize fld _ _ _ = acc at ih hb ⊢
    obtain ⟨a1, a2⟩ := acc
    dsimp only at ih hb ⊢
    refine V_iload_3 hx dX11_ofMost_8 ?_
    refine V_bipush hx dX11_ofMost_9 (by decide) ?_
    refine V_icmp_ge (tgt := 87) hx dX11_ofMost_11 (by decide) (by omega) (by omega) (fun h11 => ?_) (fun h11 => ?_)
    · exfalso; omega
    · refine V_iconst hx dX11_ofMost_14 ?_
      refine V_istore_4 hx (by first | exact nc_I | exact nc_R | exact nc_n) dX11_ofMost_15 ?_
      refine V_bipush hx dX11_ofMost_17 (by decide) ?_
      refine V_istore_5 hx (by first | exact nc_I | exact nc_R | exact nc_n) dX11_ofMost_19 ?_
      refine V_iconst hx dX11_ofMost_21 ?_
      refine V_istore_6 hx (by first | exact nc_I | exact nc_R | exact nc_n) dX11_ofMost_22 ?_
      refine loop_fn (I 49 6) hm.1 (fun w => V x z _ N I 0 0 24 [some (vR z 49), some (vI a1), some (vI a2), some (vI i), some (vI (cntW (fun w => I 55 (13 * w + 9) = 0 ∧ I 55 (13 * w + 6) = i) w.toNat)), some (vI (lstW (fun w => I 55 (13 * w + 9) = 0 ∧ I 55 (13 * w + 6) = i) w.toNat)), some (vI w)] []) ?_ ?_
      · have hc := cntW_b (fun w => I 55 (13 * w + 9) = 0 ∧ I 55 (13 * w + 6) = i) (I 49 6).toNat
        refine V_iload_6 hx dX11_ofMost_24 ?_
        refine V_aload_0 hx dX11_ofMost_26 ?_
        refine V_getIx 6 hx hF flX11_96 dX11_ofMost_27 rfl rfl (k49 hN) (fun r27 => ?_)
        refine V_icmp_ge (tgt := 69) hx dX11_ofMost_30 (by decide) (by omega) (by omega) (fun h30 => ?_) (fun h30 => ?_)
        · refine V_iload_4 hx dX11_ofMost_69 ?_
          refine V_iload_1 hx dX11_ofMost_71 ?_
          refine V_icmp_le (tgt := 81) hx dX11_ofMost_72 (by decide) (by omega) (by omega) (fun h72 => ?_) (fun h72 => ?_)
          · refine V_iinc_3 hx (by first | exact nc_I | exact nc_R | exact nc_n) dX11_ofMost_81 ?_
            refine V_goto (tgt := 8) hx dX11_ofMost_84 (by decide) ?_
            refine V_drop_4 ?_
            refine V_drop_5 ?_
            refine V_drop_6 ?_
            first | (rw [cif_t (by omega)] at ih; exact ih) | (rw [cif_f (by omega)] at ih; exact ih)
          · refine V_iload_4 hx dX11_ofMost_75 ?_
            refine V_istore_1 hx (by first | exact nc_I | exact nc_R | exact nc_n) dX11_ofMost_77 ?_
            refine V_iload_5 hx dX11_ofMost_78 ?_
            refine V_istore_2 hx (by first | exact nc_I | exact nc_R | exact nc_n) dX11_ofMost_80 ?_
            refine V_iinc_3 hx (by first | exact nc_I | exact nc_R | exact nc_n) dX11_ofMost_81 ?_
            refine V_goto (tgt := 8) hx dX11_ofMost_84 (by decide) ?_
            refine V_drop_4 ?_
            refine V_drop_5 ?_
            refine V_drop_6 ?_
            first | (rw [cif_t (by omega)] at ih; exact ih) | (rw [cif_f (by omega)] at ih; exact ih)
        · exfalso; omega
      · intro w hw0 hw1 ih2
        refine V_iload_6 hx dX11_ofMost_24 ?_
        refine V_aload_0 hx dX11_ofMost_26 ?_
        refine V_getIx 6 hx hF flX11_96 dX11_ofMost_27 rfl rfl (k49 hN) (fun r27 => ?_)
        refine V_icmp_ge (tgt := 69) hx dX11_ofMost_30 (by decide) (by omega) (by omega) (fun h30 => ?_) (fun h30 => ?_)
        · exfalso; omega
        · refine V_aload_0 hx dX11_ofMost_33 ?_
          refine V_iload_6 hx dX11_ofMost_34 ?_
          refine V_bipush hx dX11_ofMost_36 (by decide) ?_
          refine V_v2Q hx el ed (c_X11_of hN hF (by omega)) myX11_of mlX11_99 dX11_ofMost_38 ⟨_, rfl, rfl⟩ (k49 hN) (by decide) (by omega) rfl (by first | exact Nat.le_of_ble_eq_true rfl | simp [vI, vL, vR_cat, Value.category]) (fun r38 => ?_)
          refine V_if_ne (tgt := 63) hx dX11_ofMost_41 (by decide) (by omega) (fun h41 => ?_) (fun h41 => ?_)
          · refine V_iinc_6 hx (by first | exact nc_I | exact nc_R | exact nc_n) dX11_ofMost_63 ?_
            refine V_goto (tgt := 24) hx dX11_ofMost_66 (by decide) ?_
            rw [cntW_s _ hw0, lstW_s _ hw0] at ih2
            first | (rw [cif_t (by omega), cif_t (by omega)] at ih2; exact ih2) | (rw [cif_f (by omega), cif_f (by omega), Int.add_zero] at ih2; exact ih2)
          · refine V_aload_0 hx dX11_ofMost_44 ?_
            refine V_iload_6 hx dX11_ofMost_45 ?_
            refine V_bipush hx dX11_ofMost_47 (by decide) ?_
            refine V_v2Q hx el ed (c_X11_of hN hF (by omega)) myX11_of mlX11_99 dX11_ofMost_49 ⟨_, rfl, rfl⟩ (k49 hN) (by decide) (by omega) rfl (by first | exact Nat.le_of_ble_eq_true rfl | simp [vI, vL, vR_cat, Value.category]) (fun r49 => ?_)
            refine V_iload_3 hx dX11_ofMost_52 ?_
            refine V_icmp_ne (tgt := 63) hx dX11_ofMost_53 (by decide) (by omega) (by omega) (fun h53 => ?_) (fun h53 => ?_)
            · refine V_iinc_6 hx (by first | exact nc_I | exact nc_R | exact nc_n) dX11_ofMost_63 ?_
              refine V_goto (tgt := 24) hx dX11_ofMost_66 (by decide) ?_
              rw [cntW_s _ hw0, lstW_s _ hw0] at ih2
              first | (rw [cif_t (by omega), cif_t (by omega)] at ih2; exact ih2) | (rw [cif_f (by omega), cif_f (by omega), Int.add_zero] at ih2; exact ih2)
            · refine V_iinc_4 hx (by first | exact nc_I | exact nc_R | exact nc_n) dX11_ofMost_56 ?_
              refine V_iload_6 hx dX11_ofMost_59 ?_
              refine V_istore_5 hx (by first | exact nc_I | exact nc_R | exact nc_n) dX11_ofMost_61 ?_
              refine V_iinc_6 hx (by first | exact nc_I | exact nc_R | exact nc_n) dX11_ofMost_63 ?_
              refine V_goto (tgt := 24) hx dX11_ofMost_66 (by decide) ?_
              rw [cntW_s _ hw0, lstW_s _ hw0] at ih2
              first | (rw [cif_t (by omega), cif_t (by omega)] at ih2; exact ih2) | (rw [cif_f (by omega), cif_f (by omega), Int.add_zero] at ih2; exact ih2)

