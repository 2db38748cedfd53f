set_option maxRecDepth 8000 in
theorem c_X6_nextWord {l : Launch} {d : Dd} {z : Nat} {N : Int} {I : Mm} {t : Int} (hN : 67 ≤ N) (hF : Fx I) (hS : StoC I N) (ht : -2147483648 ≤ t ∧ t ≤ 2147483647) : Cn l d z yX6_nextWord cX6_nextWord 3 (some (.object "TurnPort$Word")) 3 74 0 0 [vR z 12, vI t] N I (pv (vR z (nxW I t)) N I) := by
  refine Cn.ofA [(vR z 12, false), (vI t, false)] [some (vR z 12), some (vI t), none] RX6 (by decide) rfl ⟨cR z 12, rfl, trivial⟩ (Nat.le_of_ble_eq_true rfl) rfl (fun x ed el hx hini => ?_)
  have hL := hS.1
  have hK := hS.2.1
  have hL1 := hL.1
  have hK1 := hK.1
  refine V_aload_0 hx dX6_nextWord_0 ?_
  refine V_getRe hx flX6_18 dX6_nextWord_1 rfl (k12 hN) (hF.1 12 1 15 rfl) ?_
  refine V_aload_0 hx dX6_nextWord_4 ?_
  refine V_iload_1 hx dX6_nextWord_5 ?_
  refine V_v1Q hx el ed (c_X6_nextMark hN hF hS (by omega)) myX6_nextMark mlX6_55 dX6_nextWord_6 ⟨_, rfl, rfl⟩ (k12 hN) (by decide) (by omega) rfl (by first | exact Nat.le_of_ble_eq_true rfl | simp [vI, vL, vR_cat, Value.category]) (fun r6 => ?_)
  refine V_v1P hx el ed (c_X1_at15c hN hF hK (nxM_r hK t)) myX1_at mlX6_36 dX6_nextWord_9 ⟨_, rfl, rfl⟩ (k15 hN) (by decide) (by omega) rfl (by first | exact Nat.le_of_ble_eq_true rfl | simp [vI, vL, vR_cat, Value.category]) ?_
  have hm := celL_r hK (nxM_r hK t)
  have hm1 := hm.1
  refine V_astore_2 hx (by first | exact nc_I | exact nc_R | exact nc_n) dX6_nextWord_12 ?_
  refine V_aload_2 hx dX6_nextWord_13 ?_
  refine V_ifnonnull (tgt := 21) hx dX6_nextWord_14 (by decide) (fun h14 => ?_) (fun h14 => ?_)
  · have hc := hm.2 (by omega)
    have hsh := wdC hc.1 hc.2.1
    refine V_aload_0 hx dX6_nextWord_21 ?_
    refine V_aload_2 hx dX6_nextWord_22 ?_
    refine V_getIx 2 hx hF flX6_59 dX6_nextWord_23 rfl rfl (by assumption) (fun r23 => ?_)
    refine V_iload_1 hx dX6_nextWord_26 ?_
    refine V_v2P hx el ed (c_X6_leastOf hN hF hS (by omega) (by omega)) myX6_leastOf mlX6_62 dX6_nextWord_27 ⟨_, rfl, rfl⟩ (k12 hN) (by decide) (by omega) rfl (by first | exact Nat.le_of_ble_eq_true rfl | simp [vI, vL, vR_cat, Value.category]) ?_
    refine V_areturn hx dX6_nextWord_30 (by omega) (by omega) ?_
    exact ⟨by unfold nxW; first | rw [cif_t (by omega)] | rw [cif_f (by omega), hc.2.2], rfl, rfl⟩
  · refine V_null hx dX6_nextWord_17 ?_
    refine V_goto (tgt := 30) hx dX6_nextWord_18 (by decide) ?_
    refine V_areturn hx dX6_nextWord_30 (by omega) (by omega) ?_
    exact ⟨by unfold nxW; first | rw [cif_t (by omega)] | rw [cif_f (by omega), hc.2.2], rfl, rfl⟩

set_option maxRecDepth 8000 in
theorem c_X6_take {l : Launch} {d : Dd} {z : Nat} {N : Int} {I : Mm} {t : Int} (hN : 67 ≤ N) (hF : Fx I) (hS : StoC I N) (ht : -2147483648 ≤ t ∧ t ≤ 2147483647) : Cn l d z yX6_take cX6_take 5 (some (.object "TurnPort$Word")) 3 74 0 0 [vR z 12, vI t] N I (pR z (fun r N' I' => r = nxW I t ∧ N' = N ∧ I' = cif (nxW I t = -1) I (gTake I (nxM I t) (nxW I t)) ∧ Fx I')) := by
  refine Cn.ofA [(vR z 12, false), (vI t, false)] [some (vR z 12), some (vI t), none, none, none] RX6 (by decide) rfl ⟨cR z 12, rfl, trivial⟩ (Nat.le_of_ble_eq_true rfl) rfl (fun x ed el hx hini => ?_)
  have hL := hS.1
  have hK := hS.2.1
  have hL1 := hL.1
  have hK1 := hK.1
  refine V_aload_0 hx dX6_take_0 ?_
  refine V_iload_1 hx dX6_take_1 ?_
  refine V_v1Q hx el ed (c_X6_nextMark hN hF hS (by omega)) myX6_nextMark mlX6_55 dX6_take_2 ⟨_, rfl, rfl⟩ (k12 hN) (by decide) (by omega) rfl (by first | exact Nat.le_of_ble_eq_true rfl | simp [vI, vL, vR_cat, Value.category]) (fun r2 => ?_)
  refine V_istore_2 hx (by first | exact nc_I | exact nc_R | exact nc_n) dX6_take_5 ?_
  refine V_aload_0 hx dX6_take_6 ?_
  refine V_getRe hx flX6_18 dX6_take_7 rfl (k12 hN) (hF.1 12 1 15 rfl) ?_
  refine V_iload_2 hx dX6_take_10 ?_
  refine V_v1P hx el ed (c_X1_at15c hN hF hK (nxM_r hK t)) myX1_at mlX6_36 dX6_take_11 ⟨_, rfl, rfl⟩ (k15 hN) (by decide) (by omega) rfl (by first | exact Nat.le_of_ble_eq_true rfl | simp [vI, vL, vR_cat, Value.category]) ?_
  have hm := celL_r hK (nxM_r hK t)
  have hm1 := hm.1
  refine V_astore_3 hx (by first | exact nc_I | exact nc_R | exact nc_n) dX6_take_14 ?_
  refine V_aload_3 hx dX6_take_15 ?_
  refine V_ifnonnull (tgt := 23) hx dX6_take_16 (by decide) (fun h16 => ?_) (fun h16 => ?_)
  · have hc := hm.2 (by omega)
    have hsh := wdC hc.1 hc.2.1
    refine V_aload_0 hx dX6_take_23 ?_
    refine V_aload_3 hx dX6_take_24 ?_
    refine V_getIx 2 hx hF flX6_59 dX6_take_25 rfl rfl (by assumption) (fun r25 => ?_)
    refine V_iload_1 hx dX6_take_28 ?_
    refine V_v2P hx el ed (c_X6_leastOf hN hF hS (by omega) (by omega)) myX6_leastOf mlX6_62 dX6_take_29 ⟨_, rfl, rfl⟩ (k12 hN) (by decide) (by omega) rfl (by first | exact Nat.le_of_ble_eq_true rfl | simp [vI, vL, vR_cat, Value.category]) ?_
    have en : celL I 14 (lsO I (I (celL I 16 (nxM I t)) 2) t) = nxW I t := by unfold nxW; rw [cif_f (by omega), hc.2.2]
    rw [en]
    refine V_astore_4 hx (by first | exact nc_I | exact nc_R | exact nc_n) dX6_take_32 ?_
    have hn := nxW_r hS t
    refine V_aload_4 hx dX6_take_34 ?_
    refine V_ifnull (tgt := 63) hx dX6_take_36 (by decide) (fun h36 => ?_) (fun h36 => ?_)
    · refine V_aload_4 hx dX6_take_63 ?_
      refine V_areturn hx dX6_take_65 (by omega) (by omega) ?_
      first
        | exact ⟨_, rfl, rfl, eN2.trans eN, (by rw [cif_f (by omega), eI2, eI]; rfl), hF⟩
        | exact ⟨-1, rfl, (by unfold nxW; rw [cif_t (by omega)]), rfl, (by rw [cif_t (by unfold nxW; rw [cif_t (by omega)])]), hF⟩
        | exact ⟨_, rfl, rfl, rfl, (by rw [cif_t (by omega)]), hF⟩
    · have hr0 := nxM_r hK t
      refine V_aload_0 hx dX6_take_39 ?_
      refine V_getRe hx flX6_18 dX6_take_40 rfl (k12 hN) (hF.1 12 1 15 rfl) ?_
      refine V_iload_2 hx dX6_take_43 ?_
      refine V_v1N hx el ed (c_X1_removeAt15 hN hF hK (by omega)) myX1_removeAt mlX6_66 dX6_take_44 ⟨_, rfl, rfl⟩ (k15 hN) (by decide) (by omega) rfl (by first | exact Nat.le_of_ble_eq_true rfl | simp [vI, vL, vR_cat, Value.category]) (fun N1 I1 ⟨eN, hF, eI⟩ => ?_)
      have eI : I1 = rmC I 15 16 (nxM I t) := eI
      have hS1 : StoC I1 N1 := by rw [eI, eN]; exact StoC_rm15 hS _
      have hN : 67 ≤ N1 := by omega
      refine V_aload_0 hx dX6_take_47 ?_
      refine V_getRe hx flX6_12 dX6_take_48 rfl (k12 hN) (hF.1 12 0 13 rfl) ?_
      refine V_aload_0 hx dX6_take_51 ?_
      refine V_getRe hx flX6_12 dX6_take_52 rfl (k12 hN) (hF.1 12 0 13 rfl) ?_
      refine V_aload_4 hx dX6_take_55 ?_
      refine V_v1Q hx el ed (c_X1_placeOf13 hN hF hS1.1 (by omega)) myX1_placeOf mlX6_70 dX6_take_57 ⟨_, rfl, rfl⟩ (k13 hN) (by decide) (by omega) rfl (by first | exact Nat.le_of_ble_eq_true rfl | simp [vI, vL, vR_cat, Value.category]) (fun r57 => ?_)
      (try simp only [up_s, up_c, up_row, up_k, ne_eq, Int.reduceEq, not_false_eq_true] at r57 ⊢)
      refine V_v1N hx el ed (c_X1_removeAt13 hN hF hS1.1 (by omega)) myX1_removeAt mlX6_66 dX6_take_60 ⟨_, rfl, rfl⟩ (k13 hN) (by decide) (by omega) rfl (by first | exact Nat.le_of_ble_eq_true rfl | simp [vI, vL, vR_cat, Value.category]) (fun N2 I2 ⟨eN2, hF, eI2⟩ => ?_)
      refine V_aload_4 hx dX6_take_63 ?_
      refine V_areturn hx dX6_take_65 (by omega) (by omega) ?_
      first
        | exact ⟨_, rfl, rfl, eN2.trans eN, (by rw [cif_f (by omega), eI2, eI]; rfl), hF⟩
        | exact ⟨-1, rfl, (by unfold nxW; rw [cif_t (by omega)]), rfl, (by rw [cif_t (by unfold nxW; rw [cif_t (by omega)])]), hF⟩
        | exact ⟨_, rfl, rfl, rfl, (by rw [cif_t (by omega)]), hF⟩
  · refine V_null hx dX6_take_19 ?_
    refine V_goto (tgt := 32) hx dX6_take_20 (by decide) ?_
    refine V_astore_4 hx (by first | exact nc_I | exact nc_R | exact nc_n) dX6_take_32 ?_
    have hn := nxW_r hS t
    refine V_aload_4 hx dX6_take_34 ?_
    refine V_ifnull (tgt := 63) hx dX6_take_36 (by decide) (fun _ => ?_) (fun h => absurd h (by decide))
    refine V_aload_4 hx dX6_take_63 ?_
    refine V_areturn hx dX6_take_65 (by omega) (by omega) ?_
    first
      | exact ⟨_, rfl, rfl, eN2.trans eN, (by rw [cif_f (by omega), eI2, eI]; rfl), hF⟩
      | exact ⟨-1, rfl, (by unfold nxW; rw [cif_t (by omega)]), rfl, (by rw [cif_t (by unfold nxW; rw [cif_t (by omega)])]), hF⟩
      | exact ⟨_, rfl, rfl, rfl, (by rw [cif_t (by omega)]), hF⟩

set_option maxRecDepth 8000 in
theorem c_X6_victim {l : Launch} {d : Dd} {z : Nat} {N : Int} {I : Mm} {d0 : Int} (hN : 67 ≤ N) (hF : Fx I) (hS : StoC I N) (hd0 : -2147483648 ≤ d0 ∧ d0 ≤ 2147483647) : Cn l d z yX6_victim cX6_victim 2 (some (.object "TurnPort$Word")) 3 71 0 0 [vR z 12, vI d0] N I (pv (vR z (vic I d0)) N I) := by
  refine Cn.ofA [(vR z 12, false), (vI d0, false)] [some (vR z 12), some (vI d0)] RX6 (by decide) rfl ⟨cR z 12, rfl, trivial⟩ (Nat.le_of_ble_eq_true rfl) rfl (fun x ed el hx hini => ?_)
  have hL := hS.1
  have hK := hS.2.1
  have hL1 := hL.1
  have hK1 := hK.1
  refine V_iload_1 hx dX6_victim_0 ?_
  rcases (show d0 = 1 ∨ d0 = 2 ∨ (d0 ≠ 1 ∧ d0 ≠ 2) by omega) with hsw | hsw | hsw
  · refine V_lkp (tgt := 28) (off := 27) hx dX6_victim_1 (by omega) (by decide) (by rw [hsw]; decide) (by decide) ?_
    refine V_aload_0 hx dX6_victim_28 ?_
    refine V_v0P hx el ed (c_X6_greatest hN hF hS) myX6_greatest mlX6_83 dX6_victim_29 ⟨_, rfl, rfl⟩ (k12 hN) (by decide) (by omega) rfl (by first | exact Nat.le_of_ble_eq_true rfl | simp [vI, vL, vR_cat, Value.category]) ?_
    refine V_areturn hx dX6_victim_32 (by omega) (by omega) ?_
    exact ⟨by unfold vic; first | rw [cif_t (by omega)] | rw [cif_f (by omega), cif_t (by omega)] | rw [cif_f (by omega), cif_f (by omega)], rfl, rfl⟩
  · refine V_lkp (tgt := 33) (off := 32) hx dX6_victim_1 (by omega) (by decide) (by rw [hsw]; decide) (by decide) ?_
    refine V_aload_0 hx dX6_victim_33 ?_
    refine V_aload_0 hx dX6_victim_34 ?_
    refine V_v0Q hx el ed (c_X6_fullestStream hN hF hS) myX6_fullestStream mlX6_87 dX6_victim_35 ⟨_, rfl, rfl⟩ (k12 hN) (by decide) (by omega) rfl (by first | exact Nat.le_of_ble_eq_true rfl | simp [vI, vL, vR_cat, Value.category]) (fun r35 => ?_)
    refine V_v1P hx el ed (c_X6_latestOf hN hF hS (by omega)) myX6_latestOf mlX6_91 dX6_victim_38 ⟨_, rfl, rfl⟩ (k12 hN) (by decide) (by omega) rfl (by first | exact Nat.le_of_ble_eq_true rfl | simp [vI, vL, vR_cat, Value.category]) ?_
    refine V_areturn hx dX6_victim_41 (by omega) (by omega) ?_
    exact ⟨by unfold vic; first | rw [cif_t (by omega)] | rw [cif_f (by omega), cif_t (by omega)] | rw [cif_f (by omega), cif_f (by omega)], rfl, rfl⟩
  · refine V_lkp (tgt := 42) (off := 41) hx dX6_victim_1 (by omega) (by decide) (by simp only [Op.lookupswitch.offset]; repeat rw [if_neg (by omega)]) (by decide) ?_
    refine V_aload_0 hx dX6_victim_42 ?_
    refine V_getRe hx flX6_12 dX6_victim_43 rfl (k12 hN) (hF.1 12 0 13 rfl) ?_
    refine V_aload_0 hx dX6_victim_46 ?_
    refine V_getRe hx flX6_12 dX6_victim_47 rfl (k12 hN) (hF.1 12 0 13 rfl) ?_
    refine V_getIx 1 hx hF flX6_32 dX6_victim_50 rfl rfl (k13 hN) (fun r50 => ?_)
    refine V_iconst hx dX6_victim_53 ?_
    refine V_isub hx dX6_victim_54 ?_
    refine V_v1P hx el ed (c_X1_at13 hN hF (by omega)) myX1_at mlX6_36 dX6_victim_55 ⟨_, rfl, rfl⟩ (k13 hN) (by decide) (by omega) rfl (by first | exact Nat.le_of_ble_eq_true rfl | simp [vI, vL, vR_cat, Value.category]) ?_
    refine V_areturn hx dX6_victim_58 (by omega) (by omega) ?_
    exact ⟨by unfold vic; first | rw [cif_t (by omega)] | rw [cif_f (by omega), cif_t (by omega)] | rw [cif_f (by omega), cif_f (by omega)], rfl, rfl⟩

set_option maxRecDepth 8000 in
theorem c_X6_discard {l : Launch} {d : Dd} {z : Nat} {N : Int} {I : Mm} {b : Int} (hN : 67 ≤ N) (hF : Fx I) (hS : StoC I N) (hb : shk N b (0, 9)) (hbr : 67 ≤ b) : Cn l d z yX6_discard cX6_discard 3 none 2 44 0 0 [vR z 12, vR z b] N I (pN (fun N' I' => N' = N ∧ I' = gDis I b ∧ Fx I')) := by
  refine Cn.ofA [(vR z 12, false), (vR z b, false)] [some (vR z 12), some (vR z b), none] RX6 (by decide) rfl ⟨cR z 12, cR z b, trivial⟩ (Nat.le_of_ble_eq_true rfl) rfl (fun x ed el hx hini => ?_)
  have hL := hS.1
  have hK := hS.2.1
  have hL1 := hL.1
  have hK1 := hK.1
  refine V_aload_0 hx dX6_discard_0 ?_
  refine V_getRe hx flX6_12 dX6_discard_1 rfl (k12 hN) (hF.1 12 0 13 rfl) ?_
  refine V_aload_0 hx dX6_discard_4 ?_
  refine V_getRe hx flX6_12 dX6_discard_5 rfl (k12 hN) (hF.1 12 0 13 rfl) ?_
  refine V_aload_1 hx dX6_discard_8 ?_
  refine V_v1Q hx el ed (c_X1_placeOf13 hN hF hL (by omega)) myX1_placeOf mlX6_70 dX6_discard_9 ⟨_, rfl, rfl⟩ (k13 hN) (by decide) (by omega) rfl (by first | exact Nat.le_of_ble_eq_true rfl | simp [vI, vL, vR_cat, Value.category]) (fun r9 => ?_)
  refine V_v1N hx el ed (c_X1_removeAt13 hN hF hL (by omega)) myX1_removeAt mlX6_66 dX6_discard_12 ⟨_, rfl, rfl⟩ (k13 hN) (by decide) (by omega) rfl (by first | exact Nat.le_of_ble_eq_true rfl | simp [vI, vL, vR_cat, Value.category]) (fun N1 I1 ⟨eN, hF, eI⟩ => ?_)
  have eI : I1 = gDis1 I b := eI
  have hS1 : StoC I1 N1 := by rw [eI, eN]; exact StoC_rm13 hS _
  have hN : 67 ≤ N1 := by omega
  have hb1 : shk N1 b (0, 9) := by rw [eN]; exact hb
  refine V_aload_0 hx dX6_discard_15 ?_
  refine V_getRe hx flX6_18 dX6_discard_16 rfl (k12 hN) (hF.1 12 1 15 rfl) ?_
  refine V_aload_1 hx dX6_discard_19 ?_
  refine V_v1Q hx el ed (c_X1_placeOf15 hN hF hS1.2.1 (by omega)) myX1_placeOf mlX6_70 dX6_discard_20 ⟨_, rfl, rfl⟩ (k15 hN) (by decide) (by omega) rfl (by first | exact Nat.le_of_ble_eq_true rfl | simp [vI, vL, vR_cat, Value.category]) (fun r20 => ?_)
  (try simp only [up_s, up_c, up_row, up_k, ne_eq, Int.reduceEq, not_false_eq_true] at r20 ⊢)
  refine V_istore_2 hx (by first | exact nc_I | exact nc_R | exact nc_n) dX6_discard_23 ?_
  refine V_aload_0 hx dX6_discard_24 ?_
  refine V_getRe hx flX6_18 dX6_discard_25 rfl (k12 hN) (hF.1 12 1 15 rfl) ?_
  refine V_iload_2 hx dX6_discard_28 ?_
  refine V_if_lt (tgt := 36) hx dX6_discard_29 (by decide) (by omega) (fun h29 => ?_) (fun h29 => ?_)
  · refine V_aload_0 hx dX6_discard_36 ?_
    refine V_aload_1 hx dX6_discard_37 ?_
    refine V_getIx 2 hx hF flX6_59 dX6_discard_38 rfl rfl hb1 (fun r38 => ?_)
    (try simp only [up_s, up_c, up_row, up_k, ne_eq, Int.reduceEq, not_false_eq_true] at r38 ⊢)
    refine V_v1Q hx el ed (c_X6_latestMark hN hF hS1 (by omega)) myX6_latestMark mlX6_100 dX6_discard_41 ⟨_, rfl, rfl⟩ (k12 hN) (by decide) (by omega) rfl (by first | exact Nat.le_of_ble_eq_true rfl | simp [vI, vL, vR_cat, Value.category]) (fun r41 => ?_)
    (try simp only [up_s, up_c, up_row, up_k, ne_eq, Int.reduceEq, not_false_eq_true] at r41 ⊢)
    refine V_v1N hx el ed (c_X1_removeAt15 hN hF hS1.2.1 (by omega)) myX1_removeAt mlX6_66 dX6_discard_44 ⟨_, rfl, rfl⟩ (k15 hN) (by decide) (by omega) rfl (by first | exact Nat.le_of_ble_eq_true rfl | simp [vI, vL, vR_cat, Value.category]) (fun N2 I2 ⟨eN2, hF, eI2⟩ => ?_)
    refine V_return hx dX6_discard_47 (by omega) (by omega) ?_
    have hq : gDisQ I1 b = _ := (by unfold gDisQ; first | exact cif_t (by omega) | exact cif_f (by omega))
    exact ⟨rfl, eN2.trans eN, (by unfold gDis; rw [← eI, hq, eI2]; rfl), hF⟩
  · refine V_iload_2 hx dX6_discard_32 ?_
    refine V_goto (tgt := 44) hx dX6_discard_33 (by decide) ?_
    refine V_v1N hx el ed (c_X1_removeAt15 hN hF hS1.2.1 (by omega)) myX1_removeAt mlX6_66 dX6_discard_44 ⟨_, rfl, rfl⟩ (k15 hN) (by decide) (by omega) rfl (by first | exact Nat.le_of_ble_eq_true rfl | simp [vI, vL, vR_cat, Value.category]) (fun N2 I2 ⟨eN2, hF, eI2⟩ => ?_)
    refine V_return hx dX6_discard_47 (by omega) (by omega) ?_
    have hq : gDisQ I1 b = _ := (by unfold gDisQ; first | exact cif_t (by omega) | exact cif_f (by omega))
    exact ⟨rfl, eN2.trans eN, (by unfold gDis; rw [← eI, hq, eI2]; rfl), hF⟩

