set_option maxRecDepth 8000 in
theorem c_X10_taken {l : Launch} {d : Dd} {z : Nat} {N : Int} {I : Mm} {s : Int}  (hI : Inv I N) (hs : -2147483648 ≤ s ∧ s ≤ 2147483647) : Cn l d z yX10_taken cX10_taken 3 (some .int) 1 21 0 0 [vR z 0, vI s] N I (pv (vI (aTaken I s)) N I) := by
  refine Cn.ofA [(vR z 0, false), (vI s, false)] [some (vR z 0), some (vI s), none] RX10 (by decide) rfl ⟨cR z 0, rfl, trivial⟩ (Nat.le_of_ble_eq_true rfl) rfl (fun x ed el hx hini => ?_)
  have hN := hI.nb.1
  have hF := hI.fx
  have hnb := hI.nb
  have hmy := hI.n
  have hpo := hI.po
  have hsn := hI.sn
  obtain ⟨p1, p2, p3, p4, p5, p6, p7, p8, p9, p10⟩ := hpo
  refine V_aload_0 hx dX10_taken_0 ?_
  refine V_iload_1 hx dX10_taken_1 ?_
  refine V_v1P hx el ed (c_X10_streamAt hN hF (by omega)) myX10_streamAt mlX10_80 dX10_taken_2 ⟨_, rfl, rfl⟩ (k0 hN) (by decide) (by omega) rfl (by first | exact Nat.le_of_ble_eq_true rfl | (simp only [List.map_cons, List.map_nil, List.sum_cons, List.sum_nil, vR_cat, cat_I, cat_L]; decide)) ?_
  obtain ⟨b, hb⟩ : ∃ b : Int, b = cif (0 ≤ s ∧ s ≤ 7) (25 + 2 * s) (-1) := ⟨_, rfl⟩
  rw [← hb]
  have hbs : ((0 ≤ s ∧ s ≤ 7) ∧ b = 25 + 2 * s) ∨ (¬ (0 ≤ s ∧ s ≤ 7) ∧ b = -1) := by
    by_cases c : 0 ≤ s ∧ s ≤ 7
    · rw [cif_t c] at hb; exact Or.inl ⟨c, hb⟩
    · rw [cif_f c] at hb; exact Or.inr ⟨c, hb⟩
  refine V_astore_2 hx (by first | exact nc_I | exact nc_R | exact nc_n) dX10_taken_5 ?_
  refine V_aload_2 hx dX10_taken_6 ?_
  refine V_ifnonnull (tgt := 14) hx dX10_taken_7 (by decide) (fun h7 => ?_) (fun h7 => ?_)
  · have hS : StC I N b := by rw [show b = 25 + 2 * s by omega]; exact stC hN hF (by omega) (by omega)
    have hcs := hI.st s (by omega) (by omega)
    have eb1 : b + 1 = 26 + 2 * s := by omega
    rw [← show b = 25 + 2 * s by omega, ← eb1] at hcs
    refine V_aload_2 hx dX10_taken_14 ?_
    refine V_getIx 5 hx hF flX10_193 dX10_taken_15 rfl rfl hS.1 (fun r15 => ?_)
    refine V_ireturn hx dX10_taken_18 (by omega) (by omega) ?_
    exact ⟨congrArg (fun v => some (vI v)) (by unfold aTaken; (repeat (first | rw [cif_t (by omega)] | rw [cif_f (by omega)])); all_goals omega), rfl, rfl⟩
  · refine V_iconst hx dX10_taken_10 ?_
    refine V_goto (tgt := 18) hx dX10_taken_11 (by decide) ?_
    refine V_ireturn hx dX10_taken_18 (by omega) (by omega) ?_
    exact ⟨congrArg (fun v => some (vI v)) (by unfold aTaken; (repeat (first | rw [cif_t (by omega)] | rw [cif_f (by omega)])); all_goals omega), rfl, rfl⟩

set_option maxRecDepth 8000 in
theorem c_X10_set {l : Launch} {d : Dd} {z : Nat} {N : Int} {I : Mm} {e : Ee} {s k v : Int}  (hI : Inv I N) (hE : HE d z e) (hs : -2147483648 ≤ s ∧ s ≤ 2147483647) (hk : -2147483648 ≤ k ∧ k ≤ 2147483647) (hv : -2147483648 ≤ v ∧ v ≤ 2147483647) : Cn l d z yX10_set cX10_set 5 (some .int) 1 23 0 0 [vR z 0, vI s, vI k, vI v] N I (pI (fun r N' I' => r = aSet I s k v ∧ N' = N ∧ Fx I' ∧ I' = kSet I s k v)) := by
  refine Cn.ofA [(vR z 0, false), (vI s, false), (vI k, false), (vI v, false)] [some (vR z 0), some (vI s), some (vI k), some (vI v), none] RX10 (by decide) rfl ⟨cR z 0, rfl, rfl, rfl, trivial⟩ (Nat.le_of_ble_eq_true rfl) rfl (fun x ed el hx hini => ?_)
  have hN := hI.nb.1
  have hF := hI.fx
  have hnb := hI.nb
  have hmy := hI.n
  have hpo := hI.po
  have hsn := hI.sn
  obtain ⟨p1, p2, p3, p4, p5, p6, p7, p8, p9, p10⟩ := hpo
  obtain ⟨-, -, ⟨l1, l2⟩, ⟨m1, m2⟩, -⟩ := hx.ex ed hE
  refine V_aload_0 hx dX10_set_0 ?_
  refine V_iload_1 hx dX10_set_1 ?_
  refine V_v1P hx el ed (c_X10_streamAt hN hF (by omega)) myX10_streamAt mlX10_80 dX10_set_2 ⟨_, rfl, rfl⟩ (k0 hN) (by decide) (by omega) rfl (by first | exact Nat.le_of_ble_eq_true rfl | (simp only [List.map_cons, List.map_nil, List.sum_cons, List.sum_nil, vR_cat, cat_I, cat_L]; decide)) ?_
  obtain ⟨b, hb⟩ : ∃ b : Int, b = cif (0 ≤ s ∧ s ≤ 7) (25 + 2 * s) (-1) := ⟨_, rfl⟩
  rw [← hb]
  have hbs : ((0 ≤ s ∧ s ≤ 7) ∧ b = 25 + 2 * s) ∨ (¬ (0 ≤ s ∧ s ≤ 7) ∧ b = -1) := by
    by_cases c : 0 ≤ s ∧ s ≤ 7
    · rw [cif_t c] at hb; exact Or.inl ⟨c, hb⟩
    · rw [cif_f c] at hb; exact Or.inr ⟨c, hb⟩
  refine V_astore_4 hx (by first | exact nc_I | exact nc_R | exact nc_n) dX10_set_5 ?_
  refine V_aload_4 hx dX10_set_7 ?_
  refine V_ifnull (tgt := 40) hx dX10_set_9 (by decide) (fun h9 => ?_) (fun h9 => ?_)
  · refine V_iconst hx dX10_set_40 ?_
    refine V_ireturn hx dX10_set_41 (by omega) (by omega) ?_
    have hno : ¬ ((0 ≤ s ∧ s ≤ 7) ∧ okSet k v) := by
      rintro ⟨q1, q2⟩
      first
        | omega
        | (unfold okSet at q2; omega)
        | (have := htd.1.mpr q2; omega)
    exact ⟨_, rfl, by unfold aSet; by_cases c : 0 ≤ s ∧ s ≤ 7; (rw [cif_t c, cif_f (fun q => hno ⟨c, q⟩)]); (rw [cif_f c]), rfl, hF, by unfold kSet; rw [cif_f hno]⟩
  · refine V_iload_2 hx dX10_set_12 ?_
    refine V_if_lt (tgt := 40) hx dX10_set_13 (by decide) (by omega) (fun h13 => ?_) (fun h13 => ?_)
    · refine V_iconst hx dX10_set_40 ?_
      refine V_ireturn hx dX10_set_41 (by omega) (by omega) ?_
      have hno : ¬ ((0 ≤ s ∧ s ≤ 7) ∧ okSet k v) := by
        rintro ⟨q1, q2⟩
        first
          | omega
          | (unfold okSet at q2; omega)
          | (have := htd.1.mpr q2; omega)
      exact ⟨_, rfl, by unfold aSet; by_cases c : 0 ≤ s ∧ s ≤ 7; (rw [cif_t c, cif_f (fun q => hno ⟨c, q⟩)]); (rw [cif_f c]), rfl, hF, by unfold kSet; rw [cif_f hno]⟩
    · refine V_iload_2 hx dX10_set_16 ?_
      refine V_bipush hx dX10_set_17 (by decide) ?_
      refine V_icmp_ge (tgt := 40) hx dX10_set_19 (by decide) (by omega) (by omega) (fun h19 => ?_) (fun h19 => ?_)
      · refine V_iconst hx dX10_set_40 ?_
        refine V_ireturn hx dX10_set_41 (by omega) (by omega) ?_
        have hno : ¬ ((0 ≤ s ∧ s ≤ 7) ∧ okSet k v) := by
          rintro ⟨q1, q2⟩
          first
            | omega
            | (unfold okSet at q2; omega)
            | (have := htd.1.mpr q2; omega)
        exact ⟨_, rfl, by unfold aSet; by_cases c : 0 ≤ s ∧ s ≤ 7; (rw [cif_t c, cif_f (fun q => hno ⟨c, q⟩)]); (rw [cif_f c]), rfl, hF, by unfold kSet; rw [cif_f hno]⟩
      · have htd := told_ok (k := k) (v := v) (by omega) (by omega)
        refine V_iload_3 hx dX10_set_22 ?_
        refine V_gets hx l1 flX10_84 dX10_set_23 ?_
        refine V_iload_2 hx dX10_set_26 ?_
        refine V_tldI hx l2 (by omega) (by decide) dX10_set_27 ?_
        refine V_icmp_lt (tgt := 40) hx dX10_set_28 (by decide) (by omega) (by omega) (fun h28 => ?_) (fun h28 => ?_)
        · refine V_iconst hx dX10_set_40 ?_
          refine V_ireturn hx dX10_set_41 (by omega) (by omega) ?_
          have hno : ¬ ((0 ≤ s ∧ s ≤ 7) ∧ okSet k v) := by
            rintro ⟨q1, q2⟩
            first
              | omega
              | (unfold okSet at q2; omega)
              | (have := htd.1.mpr q2; omega)
          exact ⟨_, rfl, by unfold aSet; by_cases c : 0 ≤ s ∧ s ≤ 7; (rw [cif_t c, cif_f (fun q => hno ⟨c, q⟩)]); (rw [cif_f c]), rfl, hF, by unfold kSet; rw [cif_f hno]⟩
        · refine V_iload_3 hx dX10_set_31 ?_
          refine V_gets hx m1 flX10_87 dX10_set_32 ?_
          refine V_iload_2 hx dX10_set_35 ?_
          refine V_tldI hx m2 (by omega) (by decide) dX10_set_36 ?_
          refine V_icmp_le (tgt := 42) hx dX10_set_37 (by decide) (by omega) (by omega) (fun h37 => ?_) (fun h37 => ?_)
          · have hok : okSet k v := htd.1.mp ⟨by omega, by omega⟩
            have hS : StC I N b := by rw [show b = 25 + 2 * s by omega]; exact stC hN hF (by omega) (by omega)
            have hcs := hI.st s (by omega) (by omega)
            have eb1 : b + 1 = 26 + 2 * s := by omega
            rw [← show b = 25 + 2 * s by omega, ← eb1] at hcs
            refine V_aload_4 hx dX10_set_42 ?_
            refine V_iload_2 hx dX10_set_44 ?_
            refine V_iload_3 hx dX10_set_45 ?_
            refine V_v2I hx el ed (c_X7_change hF hS (by omega) (by omega)) myX7_change mlX10_90 dX10_set_46 ⟨_, rfl, rfl⟩ hS.1 (by decide) (by omega) rfl (by first | exact Nat.le_of_ble_eq_true rfl | (simp only [List.map_cons, List.map_nil, List.sum_cons, List.sum_nil, vR_cat, cat_I, cat_L]; decide)) (fun r N1 I1 ⟨er, eI, eN, hF⟩ => ?_)
            refine V_ireturn hx dX10_set_49 (by omega) (by omega) ?_
            exact ⟨_, rfl, by unfold aSet; rw [cif_t (by omega), cif_t hok, er, hcs.1 k (by omega) (by omega)], eN, hF, by unfold kSet; rw [cif_t ⟨by omega, hok⟩, ← eb1]; exact eI⟩
          · refine V_iconst hx dX10_set_40 ?_
            refine V_ireturn hx dX10_set_41 (by omega) (by omega) ?_
            have hno : ¬ ((0 ≤ s ∧ s ≤ 7) ∧ okSet k v) := by
              rintro ⟨q1, q2⟩
              first
                | omega
                | (unfold okSet at q2; omega)
                | (have := htd.1.mpr q2; omega)
            exact ⟨_, rfl, by unfold aSet; by_cases c : 0 ≤ s ∧ s ≤ 7; (rw [cif_t c, cif_f (fun q => hno ⟨c, q⟩)]); (rw [cif_f c]), rfl, hF, by unfold kSet; rw [cif_f hno]⟩

set_option maxRecDepth 8000 in
theorem c_X10_full {l : Launch} {d : Dd} {z : Nat} {N : Int} {I : Mm} {k v : Int}  (hI : Inv I N) (hk : -2147483648 ≤ k ∧ k ≤ 2147483647) (hv : -2147483648 ≤ v ∧ v ≤ 2147483647) : Cn l d z yX10_full cX10_full 3 (some .int) 1 22 0 0 [vR z 0, vI k, vI v] N I (pI (fun r N' I' => r = aFull I k v ∧ N' = N ∧ Fx I' ∧ I' = kFull I k v)) := by
  refine Cn.ofA [(vR z 0, false), (vI k, false), (vI v, false)] [some (vR z 0), some (vI k), some (vI v)] RX10 (by decide) rfl ⟨cR z 0, rfl, rfl, trivial⟩ (Nat.le_of_ble_eq_true rfl) rfl (fun x ed el hx hini => ?_)
  have hN := hI.nb.1
  have hF := hI.fx
  have hnb := hI.nb
  have hmy := hI.n
  have hpo := hI.po
  have hsn := hI.sn
  obtain ⟨p1, p2, p3, p4, p5, p6, p7, p8, p9, p10⟩ := hpo
  refine V_iload_1 hx dX10_full_0 ?_
  refine V_if_ne (tgt := 24) hx dX10_full_1 (by decide) (by omega) (fun h1 => ?_) (fun h1 => ?_)
  · refine V_iload_1 hx dX10_full_24 ?_
    refine V_iconst hx dX10_full_25 ?_
    refine V_icmp_ne (tgt := 47) hx dX10_full_26 (by decide) (by omega) (by omega) (fun h26 => ?_) (fun h26 => ?_)
    · refine V_iconst hx dX10_full_47 ?_
      refine V_ireturn hx dX10_full_48 (by omega) (by omega) ?_
      exact ⟨_, rfl, by unfold aFull; rw [cif_f (by omega), cif_f (by omega)], rfl, hF, by unfold kFull; rw [cif_f (by omega), cif_f (by omega)]⟩
    · refine V_iload_2 hx dX10_full_29 ?_
      refine V_if_lt (tgt := 47) hx dX10_full_30 (by decide) (by omega) (fun h30 => ?_) (fun h30 => ?_)
      · refine V_iconst hx dX10_full_47 ?_
        refine V_ireturn hx dX10_full_48 (by omega) (by omega) ?_
        exact ⟨_, rfl, by unfold aFull; rw [cif_f (by omega), cif_f (by omega)], rfl, hF, by unfold kFull; rw [cif_f (by omega), cif_f (by omega)]⟩
      · refine V_iload_2 hx dX10_full_33 ?_
        refine V_iconst hx dX10_full_34 ?_
        refine V_icmp_gt (tgt := 47) hx dX10_full_35 (by decide) (by omega) (by omega) (fun h35 => ?_) (fun h35 => ?_)
        · refine V_iconst hx dX10_full_47 ?_
          refine V_ireturn hx dX10_full_48 (by omega) (by omega) ?_
          exact ⟨_, rfl, by unfold aFull; rw [cif_f (by omega), cif_f (by omega)], rfl, hF, by unfold kFull; rw [cif_f (by omega), cif_f (by omega)]⟩
        · refine V_aload_0 hx dX10_full_38 ?_
          refine V_getRe hx flX10_60 dX10_full_39 rfl (k0 hN) (hF.1 0 8 11 rfl) ?_
          refine V_iload_2 hx dX10_full_42 ?_
          refine V_v1I hx el ed (c_X3_changeDrops hN hF (by omega)) myX3_changeDrops mlX10_183 dX10_full_43 ⟨_, rfl, rfl⟩ (k11 hN) (by decide) (by omega) rfl (by first | exact Nat.le_of_ble_eq_true rfl | (simp only [List.map_cons, List.map_nil, List.sum_cons, List.sum_nil, vR_cat, cat_I, cat_L]; decide)) (fun r N1 I1 ⟨er, eI, eN, hF⟩ => ?_)
          refine V_ireturn hx dX10_full_46 (by omega) (by omega) ?_
          exact ⟨_, rfl, by unfold aFull; rw [cif_f (by omega), cif_t (by omega)]; omega, eN, hF, by unfold kFull; rw [cif_f (by omega), cif_t (by omega)]; exact eI⟩
  · refine V_iload_2 hx dX10_full_4 ?_
    refine V_iconst hx dX10_full_5 ?_
    refine V_icmp_lt (tgt := 24) hx dX10_full_6 (by decide) (by omega) (by omega) (fun h6 => ?_) (fun h6 => ?_)
    · refine V_iload_1 hx dX10_full_24 ?_
      refine V_iconst hx dX10_full_25 ?_
      refine V_icmp_ne (tgt := 47) hx dX10_full_26 (by decide) (by omega) (by omega) (fun h26 => ?_) (fun h26 => ?_)
      · refine V_iconst hx dX10_full_47 ?_
        refine V_ireturn hx dX10_full_48 (by omega) (by omega) ?_
        exact ⟨_, rfl, by unfold aFull; rw [cif_f (by omega), cif_f (by omega)], rfl, hF, by unfold kFull; rw [cif_f (by omega), cif_f (by omega)]⟩
      · refine V_iload_2 hx dX10_full_29 ?_
        refine V_if_lt (tgt := 47) hx dX10_full_30 (by decide) (by omega) (fun h30 => ?_) (fun h30 => ?_)
        · refine V_iconst hx dX10_full_47 ?_
          refine V_ireturn hx dX10_full_48 (by omega) (by omega) ?_
          exact ⟨_, rfl, by unfold aFull; rw [cif_f (by omega), cif_f (by omega)], rfl, hF, by unfold kFull; rw [cif_f (by omega), cif_f (by omega)]⟩
        · refine V_iload_2 hx dX10_full_33 ?_
          refine V_iconst hx dX10_full_34 ?_
          refine V_icmp_gt (tgt := 47) hx dX10_full_35 (by decide) (by omega) (by omega) (fun h35 => ?_) (fun h35 => ?_)
          · refine V_iconst hx dX10_full_47 ?_
            refine V_ireturn hx dX10_full_48 (by omega) (by omega) ?_
            exact ⟨_, rfl, by unfold aFull; rw [cif_f (by omega), cif_f (by omega)], rfl, hF, by unfold kFull; rw [cif_f (by omega), cif_f (by omega)]⟩
          · refine V_aload_0 hx dX10_full_38 ?_
            refine V_getRe hx flX10_60 dX10_full_39 rfl (k0 hN) (hF.1 0 8 11 rfl) ?_
            refine V_iload_2 hx dX10_full_42 ?_
            refine V_v1I hx el ed (c_X3_changeDrops hN hF (by omega)) myX3_changeDrops mlX10_183 dX10_full_43 ⟨_, rfl, rfl⟩ (k11 hN) (by decide) (by omega) rfl (by first | exact Nat.le_of_ble_eq_true rfl | (simp only [List.map_cons, List.map_nil, List.sum_cons, List.sum_nil, vR_cat, cat_I, cat_L]; decide)) (fun r N1 I1 ⟨er, eI, eN, hF⟩ => ?_)
            refine V_ireturn hx dX10_full_46 (by omega) (by omega) ?_
            exact ⟨_, rfl, by unfold aFull; rw [cif_f (by omega), cif_t (by omega)]; omega, eN, hF, by unfold kFull; rw [cif_f (by omega), cif_t (by omega)]; exact eI⟩
    · refine V_iload_2 hx dX10_full_9 ?_
      refine V_bipush hx dX10_full_10 (by decide) ?_
      refine V_icmp_gt (tgt := 24) hx dX10_full_12 (by decide) (by omega) (by omega) (fun h12 => ?_) (fun h12 => ?_)
      · refine V_iload_1 hx dX10_full_24 ?_
        refine V_iconst hx dX10_full_25 ?_
        refine V_icmp_ne (tgt := 47) hx dX10_full_26 (by decide) (by omega) (by omega) (fun h26 => ?_) (fun h26 => ?_)
        · refine V_iconst hx dX10_full_47 ?_
          refine V_ireturn hx dX10_full_48 (by omega) (by omega) ?_
          exact ⟨_, rfl, by unfold aFull; rw [cif_f (by omega), cif_f (by omega)], rfl, hF, by unfold kFull; rw [cif_f (by omega), cif_f (by omega)]⟩
        · refine V_iload_2 hx dX10_full_29 ?_
          refine V_if_lt (tgt := 47) hx dX10_full_30 (by decide) (by omega) (fun h30 => ?_) (fun h30 => ?_)
          · refine V_iconst hx dX10_full_47 ?_
            refine V_ireturn hx dX10_full_48 (by omega) (by omega) ?_
            exact ⟨_, rfl, by unfold aFull; rw [cif_f (by omega), cif_f (by omega)], rfl, hF, by unfold kFull; rw [cif_f (by omega), cif_f (by omega)]⟩
          · refine V_iload_2 hx dX10_full_33 ?_
            refine V_iconst hx dX10_full_34 ?_
            refine V_icmp_gt (tgt := 47) hx dX10_full_35 (by decide) (by omega) (by omega) (fun h35 => ?_) (fun h35 => ?_)
            · refine V_iconst hx dX10_full_47 ?_
              refine V_ireturn hx dX10_full_48 (by omega) (by omega) ?_
              exact ⟨_, rfl, by unfold aFull; rw [cif_f (by omega), cif_f (by omega)], rfl, hF, by unfold kFull; rw [cif_f (by omega), cif_f (by omega)]⟩
            · refine V_aload_0 hx dX10_full_38 ?_
              refine V_getRe hx flX10_60 dX10_full_39 rfl (k0 hN) (hF.1 0 8 11 rfl) ?_
              refine V_iload_2 hx dX10_full_42 ?_
              refine V_v1I hx el ed (c_X3_changeDrops hN hF (by omega)) myX3_changeDrops mlX10_183 dX10_full_43 ⟨_, rfl, rfl⟩ (k11 hN) (by decide) (by omega) rfl (by first | exact Nat.le_of_ble_eq_true rfl | (simp only [List.map_cons, List.map_nil, List.sum_cons, List.sum_nil, vR_cat, cat_I, cat_L]; decide)) (fun r N1 I1 ⟨er, eI, eN, hF⟩ => ?_)
              refine V_ireturn hx dX10_full_46 (by omega) (by omega) ?_
              exact ⟨_, rfl, by unfold aFull; rw [cif_f (by omega), cif_t (by omega)]; omega, eN, hF, by unfold kFull; rw [cif_f (by omega), cif_t (by omega)]; exact eI⟩
      · refine V_aload_0 hx dX10_full_15 ?_
        refine V_getRe hx flX10_60 dX10_full_16 rfl (k0 hN) (hF.1 0 8 11 rfl) ?_
        refine V_iload_2 hx dX10_full_19 ?_
        refine V_v1I hx el ed (c_X3_changeRoom hN hF (by omega)) myX3_changeRoom mlX10_179 dX10_full_20 ⟨_, rfl, rfl⟩ (k11 hN) (by decide) (by omega) rfl (by first | exact Nat.le_of_ble_eq_true rfl | (simp only [List.map_cons, List.map_nil, List.sum_cons, List.sum_nil, vR_cat, cat_I, cat_L]; decide)) (fun r N1 I1 ⟨er, eI, eN, hF⟩ => ?_)
        refine V_ireturn hx dX10_full_23 (by omega) (by omega) ?_
        exact ⟨_, rfl, by unfold aFull; rw [cif_t (by omega)]; omega, eN, hF, by unfold kFull; rw [cif_t (by omega)]; exact eI⟩

set_option maxRecDepth 8000 in
theorem c_X10_promise {l : Launch} {d : Dd} {z : Nat} {N : Int} {I : Mm} {s most : Int}  (hI : Inv I N) (hs : -2147483648 ≤ s ∧ s ≤ 2147483647) (hmost : -2147483648 ≤ most ∧ most ≤ 2147483647) : Cn l d z yX10_promise cX10_promise 7 (some .int) 1 24 0 0 [vR z 0, vI s, vI most] N I (pv (vI (aProm I s most)) N I) := by
  refine Cn.ofA [(vR z 0, false), (vI s, false), (vI most, false)] [some (vR z 0), some (vI s), some (vI most), none, none, none, none] RX10 (by decide) rfl ⟨cR z 0, rfl, rfl, trivial⟩ (Nat.le_of_ble_eq_true rfl) rfl (fun x ed el hx hini => ?_)
  have hN := hI.nb.1
  have hF := hI.fx
  have hnb := hI.nb
  have hmy := hI.n
  have hpo := hI.po
  have hsn := hI.sn
  obtain ⟨p1, p2, p3, p4, p5, p6, p7, p8, p9, p10⟩ := hpo
  refine V_aload_0 hx dX10_promise_0 ?_
  refine V_iload_1 hx dX10_promise_1 ?_
  refine V_v1P hx el ed (c_X10_streamAt hN hF (by omega)) myX10_streamAt mlX10_80 dX10_promise_2 ⟨_, rfl, rfl⟩ (k0 hN) (by decide) (by omega) rfl (by first | exact Nat.le_of_ble_eq_true rfl | (simp only [List.map_cons, List.map_nil, List.sum_cons, List.sum_nil, vR_cat, cat_I, cat_L]; decide)) ?_
  obtain ⟨b, hb⟩ : ∃ b : Int, b = cif (0 ≤ s ∧ s ≤ 7) (25 + 2 * s) (-1) := ⟨_, rfl⟩
  rw [← hb]
  have hbs : ((0 ≤ s ∧ s ≤ 7) ∧ b = 25 + 2 * s) ∨ (¬ (0 ≤ s ∧ s ≤ 7) ∧ b = -1) := by
    by_cases c : 0 ≤ s ∧ s ≤ 7
    · rw [cif_t c] at hb; exact Or.inl ⟨c, hb⟩
    · rw [cif_f c] at hb; exact Or.inr ⟨c, hb⟩
  refine V_astore_3 hx (by first | exact nc_I | exact nc_R | exact nc_n) dX10_promise_5 ?_
  refine V_aload_3 hx dX10_promise_6 ?_
  refine V_ifnull (tgt := 21) hx dX10_promise_7 (by decide) (fun h7 => ?_) (fun h7 => ?_)
  · refine V_iconst hx dX10_promise_21 ?_
    refine V_ireturn hx dX10_promise_22 (by omega) (by omega) ?_
    exact ⟨congrArg (fun v => some (vI v)) (by unfold aProm; (repeat (first | rw [cif_t (by omega)] | rw [cif_f (by omega)])); all_goals omega), rfl, rfl⟩
  · refine V_iload_2 hx dX10_promise_10 ?_
    refine V_iconst hx dX10_promise_11 ?_
    refine V_icmp_lt (tgt := 21) hx dX10_promise_12 (by decide) (by omega) (by omega) (fun h12 => ?_) (fun h12 => ?_)
    · refine V_iconst hx dX10_promise_21 ?_
      refine V_ireturn hx dX10_promise_22 (by omega) (by omega) ?_
      exact ⟨congrArg (fun v => some (vI v)) (by unfold aProm; (repeat (first | rw [cif_t (by omega)] | rw [cif_f (by omega)])); all_goals omega), rfl, rfl⟩
    · refine V_iload_2 hx dX10_promise_15 ?_
      refine V_bipush hx dX10_promise_16 (by decide) ?_
      refine V_icmp_le (tgt := 23) hx dX10_promise_18 (by decide) (by omega) (by omega) (fun h18 => ?_) (fun h18 => ?_)
      · have hS : StC I N b := by rw [show b = 25 + 2 * s by omega]; exact stC hN hF (by omega) (by omega)
        have hcs := hI.st s (by omega) (by omega)
        have eb1 : b + 1 = 26 + 2 * s := by omega
        rw [← show b = 25 + 2 * s by omega, ← eb1] at hcs
        have hpr := prom_eq hI (s := s) (by omega) (by omega)
        have hS2 : shk N (26 + 2 * s) (1, 7) := by rw [← eb1]; exact hS.2.2.1
        have hB6 : ∀ q : Int, 0 ≤ q → q ≤ 7 → 0 ≤ I (26 + 2 * q) 6 ∧ I (26 + 2 * q) 6 ≤ 999 := fun q q0 q1 => by rw [(hI.st q q0 q1).1 6 (by omega) (by omega)]; have := hI.set.at q0 q1; omega
        have hB5 : ∀ q : Int, 0 ≤ q → q ≤ 7 → 0 ≤ I (26 + 2 * q) 5 ∧ I (26 + 2 * q) 5 ≤ 999 := fun q q0 q1 => by rw [(hI.st q q0 q1).1 5 (by omega) (by omega)]; have := hI.set.at q0 q1; omega
        have hkl : 0 ≤ I (26 + 2 * s) 0 ∧ I (26 + 2 * s) 0 ≤ 9 := by rw [(hI.st s (by omega) (by omega)).1 0 (by omega) (by omega)]; have := hI.set.at (s := s) (by omega) (by omega); omega
        have b1 := fld_bb (f := pLs I s) (a0 := 0) (B := 16) (m := 8) (fun q h0 h1 => (p_b hI.set s h0 (by omega)).2.2) (by decide) 8 (Nat.le_refl _)
        have b2 := fld_bb (f := pA I s) (a0 := 0) (B := 16) (m := 8) (fun q h0 h1 => (p_b hI.set s h0 (by omega)).2.1) (by decide) 8 (Nat.le_refl _)
        have b3 := fld_bb (f := pB I s) (a0 := most) (B := 999) (m := 8) (fun q h0 h1 => (p_b hI.set s h0 (by omega)).1) (by decide) 8 (Nat.le_refl _)
        refine V_aload_3 hx dX10_promise_23 ?_
        refine V_getRe hx flX10_247 dX10_promise_24 rfl hS.1 hS.2.1 ?_
        rw [eb1]
        refine V_iconst hx dX10_promise_27 ?_
        refine V_ialoadx hx hF dX10_promise_28 hS2 (by decide) (by omega) (fun r28 => ?_)
        refine V_istore_4 hx (by first | exact nc_I | exact nc_R | exact nc_n) dX10_promise_29 ?_
        refine V_aload_0 hx dX10_promise_31 ?_
        refine V_iload_4 hx dX10_promise_32 ?_
        refine V_iconst hx dX10_promise_34 ?_
        refine V_isub hx dX10_promise_35 ?_
        refine V_bipush hx dX10_promise_36 (by decide) ?_
        refine V_v2Q hx el ed (c_X10_sumUpTo hN hF (by omega) (by omega) hB6) myX10_sumUpTo mlX10_250 dX10_promise_38 ⟨_, rfl, rfl⟩ (k0 hN) (by decide) (by omega) rfl (by first | exact Nat.le_of_ble_eq_true rfl | (simp only [List.map_cons, List.map_nil, List.sum_cons, List.sum_nil, vR_cat, cat_I, cat_L]; decide)) (fun r38 => ?_)
        refine V_topI (fld (fun a q => a + pLs I s q) 0 8) hpr.1 ?_
        refine V_istore_5 hx (by first | exact nc_I | exact nc_R | exact nc_n) dX10_promise_41 ?_
        refine V_aload_0 hx dX10_promise_43 ?_
        refine V_iload_4 hx dX10_promise_44 ?_
        refine V_bipush hx dX10_promise_46 (by decide) ?_
        refine V_v2Q hx el ed (c_X10_sumUpTo hN hF (by omega) (by omega) hB6) myX10_sumUpTo mlX10_250 dX10_promise_48 ⟨_, rfl, rfl⟩ (k0 hN) (by decide) (by omega) rfl (by first | exact Nat.le_of_ble_eq_true rfl | (simp only [List.map_cons, List.map_nil, List.sum_cons, List.sum_nil, vR_cat, cat_I, cat_L]; decide)) (fun r48 => ?_)
        refine V_topI (fld (fun a q => a + pA I s q) 0 8) hpr.2.1 ?_
        refine V_bipush hx dX10_promise_51 (by decide) ?_
        refine V_icmp_gt (tgt := 63) hx dX10_promise_53 (by decide) (by omega) (by omega) (fun h53 => ?_) (fun h53 => ?_)
        · refine V_bipush hx dX10_promise_63 (by decide) ?_
          refine V_ireturn hx dX10_promise_65 (by omega) (by omega) ?_
          exact ⟨congrArg (fun v => some (vI v)) (by unfold aProm; rw [cif_t (by omega), cif_t (by omega), cif_t (by omega)]), rfl, rfl⟩
        · refine V_iload_5 hx dX10_promise_56 ?_
          refine V_bipush hx dX10_promise_58 (by decide) ?_
          refine V_icmp_lt (tgt := 66) hx dX10_promise_60 (by decide) (by omega) (by omega) (fun h60 => ?_) (fun h60 => ?_)
          · refine V_bipush hx dX10_promise_66 (by decide) ?_
            refine V_iload_5 hx dX10_promise_68 ?_
            refine V_isub hx dX10_promise_70 ?_
            refine V_istore_6 hx (by first | exact nc_I | exact nc_R | exact nc_n) dX10_promise_71 ?_
            refine V_bipush hx dX10_promise_73 (by decide) ?_
            refine V_aload_0 hx dX10_promise_75 ?_
            refine V_iload_4 hx dX10_promise_76 ?_
            refine V_iconst hx dX10_promise_78 ?_
            refine V_v2Q hx el ed (c_X10_sumUpTo hN hF (by omega) (by omega) hB5) myX10_sumUpTo mlX10_250 dX10_promise_79 ⟨_, rfl, rfl⟩ (k0 hN) (by decide) (by omega) rfl (by first | exact Nat.le_of_ble_eq_true rfl | (simp only [List.map_cons, List.map_nil, List.sum_cons, List.sum_nil, vR_cat, cat_I, cat_L]; decide)) (fun r79 => ?_)
            refine V_iload_2 hx dX10_promise_82 ?_
            refine V_iadd hx dX10_promise_83 ?_
            rw [hpr.2.2 most]
            refine V_imul hx dX10_promise_84 ?_
            refine V_iload_6 hx dX10_promise_85 ?_
            refine V_iadd hx dX10_promise_87 ?_
            refine V_iconst hx dX10_promise_88 ?_
            refine V_isub hx dX10_promise_89 ?_
            refine V_iload_6 hx dX10_promise_90 ?_
            refine V_idiv hx dX10_promise_92 (by omega) (by omega) ?_
            refine V_ireturn hx dX10_promise_93 (by omega) (by omega) ?_
            exact ⟨congrArg (fun v => some (vI v)) (by unfold aProm; rw [cif_t (by omega), cif_t (by omega), cif_f (by omega)]; congr 1; omega), rfl, rfl⟩
          · refine V_bipush hx dX10_promise_63 (by decide) ?_
            refine V_ireturn hx dX10_promise_65 (by omega) (by omega) ?_
            exact ⟨congrArg (fun v => some (vI v)) (by unfold aProm; rw [cif_t (by omega), cif_t (by omega), cif_t (by omega)]), rfl, rfl⟩
      · refine V_iconst hx dX10_promise_21 ?_
        refine V_ireturn hx dX10_promise_22 (by omega) (by omega) ?_
        exact ⟨congrArg (fun v => some (vI v)) (by unfold aProm; (repeat (first | rw [cif_t (by omega)] | rw [cif_f (by omega)])); all_goals omega), rfl, rfl⟩

