set_option maxRecDepth 8000 in
theorem c_X3_changeRoom {l : Launch} {d : Dd} {z : Nat} {N : Int} {I : Mm} {v : Int} (hN : 67 ≤ N) (hF : Fx I) (hv : -2147483648 ≤ v ∧ v ≤ 2147483647) : Cn l d z yX3_changeRoom cX3_changeRoom 3 (some .int) 0 0 0 0 [vR z 11, vI v] N I (pI (fun r N' I' => r = I 11 3 ∧ I' = up I 11 3 v ∧ N' = N ∧ Fx I')) := by
  refine Cn.ofA [(vR z 11, false), (vI v, false)] [some (vR z 11), some (vI v), none] RX3 (by decide) rfl ⟨cR z 11, rfl, trivial⟩ (Nat.le_of_ble_eq_true rfl) rfl (fun x ed el hx hini => ?_)
  refine V_aload_0 hx dX3_changeRoom_0 ?_
  refine V_getIx 3 hx hF flX3_17 dX3_changeRoom_1 rfl rfl (k11 hN) (fun r1 => ?_)
  refine V_istore_2 hx (by first | exact nc_I | exact nc_R | exact nc_n) dX3_changeRoom_4 ?_
  refine V_aload_0 hx dX3_changeRoom_5 ?_
  refine V_iload_1 hx dX3_changeRoom_6 ?_
  refine V_putIx 3 hx hF flX3_17 dX3_changeRoom_7 rfl rfl (fun r h => by cases h; rfl) (k11 hN) rfl (by omega) (Or.inl (by decide)) (fun hF => ?_)
  refine V_iload_2 hx dX3_changeRoom_10 ?_
  refine V_ireturn hx dX3_changeRoom_11 (by omega) (by omega) ?_
  exact ⟨_, rfl, rfl, rfl, rfl, hF⟩

set_option maxRecDepth 8000 in
theorem c_X3_changeDrops {l : Launch} {d : Dd} {z : Nat} {N : Int} {I : Mm} {v : Int} (hN : 67 ≤ N) (hF : Fx I) (hv : -2147483648 ≤ v ∧ v ≤ 2147483647) : Cn l d z yX3_changeDrops cX3_changeDrops 3 (some .int) 0 0 0 0 [vR z 11, vI v] N I (pI (fun r N' I' => r = I 11 4 ∧ I' = up I 11 4 v ∧ N' = N ∧ Fx I')) := by
  refine Cn.ofA [(vR z 11, false), (vI v, false)] [some (vR z 11), some (vI v), none] RX3 (by decide) rfl ⟨cR z 11, rfl, trivial⟩ (Nat.le_of_ble_eq_true rfl) rfl (fun x ed el hx hini => ?_)
  refine V_aload_0 hx dX3_changeDrops_0 ?_
  refine V_getIx 4 hx hF flX3_25 dX3_changeDrops_1 rfl rfl (k11 hN) (fun r1 => ?_)
  refine V_istore_2 hx (by first | exact nc_I | exact nc_R | exact nc_n) dX3_changeDrops_4 ?_
  refine V_aload_0 hx dX3_changeDrops_5 ?_
  refine V_iload_1 hx dX3_changeDrops_6 ?_
  refine V_putIx 4 hx hF flX3_25 dX3_changeDrops_7 rfl rfl (fun r h => by cases h; rfl) (k11 hN) rfl (by omega) (Or.inl (by decide)) (fun hF => ?_)
  refine V_iload_2 hx dX3_changeDrops_10 ?_
  refine V_ireturn hx dX3_changeDrops_11 (by omega) (by omega) ?_
  exact ⟨_, rfl, rfl, rfl, rfl, hF⟩

set_option maxRecDepth 8000 in
theorem c_X3_letIn {l : Launch} {d : Dd} {z : Nat} {N : Int} {I : Mm} {b : Int} (hN : 67 ≤ N) (hF : Fx I) (hS : StoC I N) (hz : I 13 1 < 25) (hzk : I 15 1 < 25) (hb : shk N b (0, 9)) (hbr : 67 ≤ b ∧ b ≤ 2000) (hh : 0 ≤ I b 2 ∧ I b 2 ≤ 3) (hdc : 0 ≤ I 11 9 ∧ I 11 9 ≤ 100000) : Cn l d z yX3_letIn cX3_letIn 4 none 4 92 0 0 [vR z 11, vR z b] N I (pN (fun N' I' => N' = N ∧ I' = gLet I b ∧ Fx I')) := by
  refine Cn.ofA [(vR z 11, false), (vR z b, false)] [some (vR z 11), some (vR z b), none, none] RX3 (by decide) rfl ⟨cR z 11, cR z b, trivial⟩ (Nat.le_of_ble_eq_true rfl) rfl (fun x ed el hx hini => ?_)
  have hL := hS.1
  have hK := hS.2.1
  have hL1 := hL.1
  have hK1 := hK.1
  refine V_aload_0 hx dX3_letIn_0 ?_
  refine V_getRe hx flX3_21 dX3_letIn_1 rfl (k11 hN) (hF.1 11 0 12 rfl) ?_
  refine V_getRe hx flX3_28 dX3_letIn_4 rfl (k12 hN) (hF.1 12 0 13 rfl) ?_
  refine V_getIx 1 hx hF flX3_34 dX3_letIn_7 rfl rfl (k13 hN) (fun r7 => ?_)
  refine V_aload_0 hx dX3_letIn_10 ?_
  refine V_getIx 3 hx hF flX3_17 dX3_letIn_11 rfl rfl (k11 hN) (fun r11 => ?_)
  refine V_icmp_lt (tgt := 21) hx dX3_letIn_14 (by decide) (by omega) (by omega) (fun h14 => ?_) (fun h14 => ?_)
  · refine V_iconst hx dX3_letIn_21 ?_
    refine V_istore_2 hx (by first | exact nc_I | exact nc_R | exact nc_n) dX3_letIn_22 ?_
    refine V_aload_0 hx dX3_letIn_23 ?_
    refine V_getRe hx flX3_21 dX3_letIn_24 rfl (k11 hN) (hF.1 11 0 12 rfl) ?_
    refine V_aload_1 hx dX3_letIn_27 ?_
    refine V_v1N hx el ed (c_X6_put hN hF hS (by omega) (by omega) hb (by omega)) myX6_put mlX3_39 dX3_letIn_28 ⟨_, rfl, rfl⟩ (k12 hN) (by decide) (by omega) rfl (by first | exact Nat.le_of_ble_eq_true rfl | simp [vI, vL, vR_cat, Value.category]) (fun N1 I1 ⟨eN, eI, hF⟩ => ?_)
    have eI : I1 = gPut I b := eI
    have hS1 : StoC I1 N1 := by rw [eI, eN]; exact StoC_put hS ⟨by omega, hb.2.1⟩ hz hzk hh
    have hN : 67 ≤ N1 := by omega
    have e4 : I1 11 4 = I 11 4 := by rw [eI]; exact gPut_n (by decide) 4
    have ev : vic (gPut I b) (I 11 4) = vic I1 (I1 11 4) := by rw [e4, eI]
    refine V_iload_2 hx dX3_letIn_31 ?_
    refine V_if_eq (tgt := 49) hx dX3_letIn_32 (by decide) (by omega) (fun _ => ?_) (fun h => absurd h (by decide))
    refine V_null hx dX3_letIn_49 ?_
    refine V_astore_3 hx (by first | exact nc_I | exact nc_R | exact nc_n) dX3_letIn_50 ?_
    refine V_aload_3 hx dX3_letIn_51 ?_
    refine V_ifnull (tgt := 78) hx dX3_letIn_52 (by decide) (fun _ => ?_) (fun h => absurd h (by decide))
    refine V_return hx dX3_letIn_78 (by omega) (by omega) ?_
    first
      | exact ⟨rfl, eN2.trans eN, (by unfold gLet; rw [ev, cif_t (by omega), eI2, ← eI]), hF⟩
      | exact ⟨rfl, eN, (by unfold gLet; rw [ev, cif_f (by omega), eI]), hF⟩
  · refine V_iconst hx dX3_letIn_17 ?_
    refine V_goto (tgt := 22) hx dX3_letIn_18 (by decide) ?_
    refine V_istore_2 hx (by first | exact nc_I | exact nc_R | exact nc_n) dX3_letIn_22 ?_
    refine V_aload_0 hx dX3_letIn_23 ?_
    refine V_getRe hx flX3_21 dX3_letIn_24 rfl (k11 hN) (hF.1 11 0 12 rfl) ?_
    refine V_aload_1 hx dX3_letIn_27 ?_
    refine V_v1N hx el ed (c_X6_put hN hF hS (by omega) (by omega) hb (by omega)) myX6_put mlX3_39 dX3_letIn_28 ⟨_, rfl, rfl⟩ (k12 hN) (by decide) (by omega) rfl (by first | exact Nat.le_of_ble_eq_true rfl | simp [vI, vL, vR_cat, Value.category]) (fun N1 I1 ⟨eN, eI, hF⟩ => ?_)
    have eI : I1 = gPut I b := eI
    have hS1 : StoC I1 N1 := by rw [eI, eN]; exact StoC_put hS ⟨by omega, hb.2.1⟩ hz hzk hh
    have hN : 67 ≤ N1 := by omega
    have e4 : I1 11 4 = I 11 4 := by rw [eI]; exact gPut_n (by decide) 4
    have ev : vic (gPut I b) (I 11 4) = vic I1 (I1 11 4) := by rw [e4, eI]
    refine V_iload_2 hx dX3_letIn_31 ?_
    refine V_if_eq (tgt := 49) hx dX3_letIn_32 (by decide) (by omega) (fun h => absurd h (by decide)) (fun _ => ?_)
    refine V_aload_0 hx dX3_letIn_35 ?_
    refine V_getRe hx flX3_21 dX3_letIn_36 rfl (k11 hN) (hF.1 11 0 12 rfl) ?_
    refine V_aload_0 hx dX3_letIn_39 ?_
    refine V_getIx 4 hx hF flX3_25 dX3_letIn_40 rfl rfl (k11 hN) (fun r40 => ?_)
    (try simp only [up_s, up_c, up_row, up_k, ne_eq, Int.reduceEq, not_false_eq_true] at r40 ⊢)
    refine V_v1P hx el ed (c_X6_victim hN hF hS1 (by omega)) myX6_victim mlX3_43 dX3_letIn_43 ⟨_, rfl, rfl⟩ (k12 hN) (by decide) (by omega) rfl (by first | exact Nat.le_of_ble_eq_true rfl | simp [vI, vL, vR_cat, Value.category]) ?_
    have hv := vic_r hS1 (I1 11 4)
    refine V_goto (tgt := 50) hx dX3_letIn_46 (by decide) ?_
    refine V_astore_3 hx (by first | exact nc_I | exact nc_R | exact nc_n) dX3_letIn_50 ?_
    refine V_aload_3 hx dX3_letIn_51 ?_
    refine V_ifnull (tgt := 78) hx dX3_letIn_52 (by decide) (fun h52 => ?_) (fun h52 => ?_)
    · refine V_return hx dX3_letIn_78 (by omega) (by omega) ?_
      first
        | exact ⟨rfl, eN2.trans eN, (by unfold gLet; rw [ev, cif_t (by omega), eI2, ← eI]), hF⟩
        | exact ⟨rfl, eN, (by unfold gLet; rw [ev, cif_f (by omega), eI]), hF⟩
    · have hsh := wdC (N := N1) (a := vic I1 (I1 11 4)) (by omega) (by omega)
      refine V_aload_0 hx dX3_letIn_55 ?_
      refine V_getRe hx flX3_21 dX3_letIn_56 rfl (k11 hN) (hF.1 11 0 12 rfl) ?_
      refine V_aload_3 hx dX3_letIn_59 ?_
      refine V_v1N hx el ed (c_X6_discard hN hF hS1 hsh (by omega)) myX6_discard mlX3_47 dX3_letIn_60 ⟨_, rfl, rfl⟩ (k12 hN) (by decide) (by omega) rfl (by first | exact Nat.le_of_ble_eq_true rfl | simp [vI, vL, vR_cat, Value.category]) (fun N2 I2 ⟨eN2, eI2, hF⟩ => ?_)
      have hN : 67 ≤ N2 := by omega
      have hsh2 : shk N2 (vic I1 (I1 11 4)) (0, 9) := by rw [eN2]; exact hsh
      refine V_aload_3 hx dX3_letIn_63 ?_
      refine V_iconst hx dX3_letIn_64 ?_
      refine V_putIx 10 hx hF flX3_50 dX3_letIn_65 rfl rfl (fun r h => by cases h; rfl) hsh2 (fx_word (by omega) _) (by omega) (Or.inl (by omega)) (fun hF => ?_)
      refine V_aload_0 hx dX3_letIn_68 ?_
      refine V_dupR hx dX3_letIn_69 ?_
      refine V_getIx 9 hx hF flX3_53 dX3_letIn_70 rfl rfl (k11 hN) (fun r70 => ?_)
      (try simp only [up_s, up_c, up_row, up_k, ne_eq, Int.reduceEq, not_false_eq_true] at r70 ⊢)
      rw [show I2 11 9 = I 11 9 by rw [eI2, gDis_n (by decide), eI]; exact gPut_n (by decide) 9]
      refine V_iconst hx dX3_letIn_73 ?_
      refine V_iadd hx dX3_letIn_74 ?_
      refine V_putIx 9 hx hF flX3_53 dX3_letIn_75 rfl rfl (fun r h => by cases h; rfl) (k11 hN) rfl (by omega) (Or.inl (by decide)) (fun hF => ?_)
      refine V_return hx dX3_letIn_78 (by omega) (by omega) ?_
      first
        | exact ⟨rfl, eN2.trans eN, (by unfold gLet; rw [ev, cif_t (by omega), eI2, ← eI]), hF⟩
        | exact ⟨rfl, eN, (by unfold gLet; rw [ev, cif_f (by omega), eI]), hF⟩

set_option maxRecDepth 8000 in
theorem c_X3_startSending {l : Launch} {d : Dd} {z : Nat} {N : Int} {I : Mm} (hN : 67 ≤ N) (hF : Fx I) (hS : StoC I N) (hT : 0 ≤ I 11 2 ∧ I 11 2 ≤ 1000) (hNb : N ≤ 2000) : Cn l d z yX3_startSending cX3_startSending 2 none 4 98 0 0 [vR z 11] N I (pN (fun N' I' => N' = N ∧ I' = gStart I ∧ Fx I')) := by
  refine Cn.ofA [(vR z 11, false)] [some (vR z 11), none] RX3 (by decide) rfl ⟨cR z 11, trivial⟩ (Nat.le_of_ble_eq_true rfl) rfl (fun x ed el hx hini => ?_)
  have hL := hS.1
  have hK := hS.2.1
  have hL1 := hL.1
  have hK1 := hK.1
  refine V_aload_0 hx dX3_startSending_0 ?_
  refine V_getIx 2 hx hF flX3_89 dX3_startSending_1 rfl rfl (k11 hN) (fun r1 => ?_)
  refine V_aload_0 hx dX3_startSending_4 ?_
  refine V_getRe hx flX3_11 dX3_startSending_5 rfl (k11 hN) (hF.1 11 1 17 rfl) ?_
  refine V_alen hx dX3_startSending_8 (k17 hN) (by unfold tyK; omega) ?_
  refine V_icmp_ge (tgt := 26) hx dX3_startSending_9 (by decide) (by omega) (by omega) (fun h9 => ?_) (fun h9 => ?_)
  · refine V_null hx dX3_startSending_26 ?_
    refine V_astore_1 hx (by first | exact nc_I | exact nc_R | exact nc_n) dX3_startSending_27 ?_
    refine V_aload_1 hx dX3_startSending_28 ?_
    refine V_ifnonnull (tgt := 33) hx dX3_startSending_29 (by decide) (fun h => absurd h (by decide)) (fun _ => ?_)
    refine V_return hx dX3_startSending_32 (by omega) (by omega) ?_
    first
      | exact ⟨rfl, eN, (by unfold gStart; rw [cif_t (by omega), ← ew, eI]), hF⟩
      | exact ⟨rfl, eN, (by unfold gStart; rw [cif_f (by omega), eI, cif_t (by omega)]), hF⟩
      | exact ⟨rfl, rfl, (by unfold gStart; rw [cif_f (by omega)]), hF⟩
  · refine V_aload_0 hx dX3_startSending_12 ?_
    refine V_getRe hx flX3_21 dX3_startSending_13 rfl (k11 hN) (hF.1 11 0 12 rfl) ?_
    refine V_aload_0 hx dX3_startSending_16 ?_
    refine V_getIx 6 hx hF flX3_73 dX3_startSending_17 rfl rfl (k11 hN) (fun r17 => ?_)
    refine V_v1R hx el ed (c_X6_take hN hF hS (by omega)) myX6_take mlX3_92 dX3_startSending_20 ⟨_, rfl, rfl⟩ (k12 hN) (by decide) (by omega) rfl (by first | exact Nat.le_of_ble_eq_true rfl | simp [vI, vL, vR_cat, Value.category]) (fun w N1 I1 ⟨ew, eN, eI, hF⟩ => ?_)
    have hnw := nxW_r hS (I 11 6)
    have hN : 67 ≤ N1 := by omega
    refine V_goto (tgt := 27) hx dX3_startSending_23 (by decide) ?_
    refine V_astore_1 hx (by first | exact nc_I | exact nc_R | exact nc_n) dX3_startSending_27 ?_
    refine V_aload_1 hx dX3_startSending_28 ?_
    refine V_ifnonnull (tgt := 33) hx dX3_startSending_29 (by decide) (fun h29 => ?_) (fun h29 => ?_)
    · have eI : I1 = gTake I (nxM I (I 11 6)) w := by rw [eI, cif_f (by omega), ew]
      have hsh : shk N1 w (0, 9) := wdC (by omega) (by omega)
      have e6 : ∀ k, I1 11 k = I 11 k := fun k => by rw [eI]; exact gTake_n (by decide) k
      refine V_aload_1 hx dX3_startSending_33 ?_
      refine V_iconst hx dX3_startSending_34 ?_
      refine V_putIx 10 hx hF flX3_50 dX3_startSending_35 rfl rfl (fun r h => by cases h; rfl) (by assumption) (fx_word (by omega) _) (by omega) (Or.inl (by omega)) (fun hF => ?_)
      refine V_aload_1 hx dX3_startSending_38 ?_
      refine V_aload_0 hx dX3_startSending_39 ?_
      refine V_getIx 6 hx hF flX3_73 dX3_startSending_40 rfl rfl (k11 hN) (fun r40 => ?_)
      (try simp only [up_s, up_c, up_row, up_k, ne_eq, Int.reduceEq, not_false_eq_true] at r40 ⊢)
      rw [e6 6]
      refine V_putIx 11 hx hF flX3_67 dX3_startSending_43 rfl rfl (fun r h => by cases h; rfl) (by assumption) (fx_word (by omega) _) (by omega) (Or.inl (by omega)) (fun hF => ?_)
      refine V_aload_1 hx dX3_startSending_46 ?_
      refine V_aload_0 hx dX3_startSending_47 ?_
      refine V_getIx 2 hx hF flX3_89 dX3_startSending_48 rfl rfl (k11 hN) (fun r48 => ?_)
      (try simp only [up_s, up_c, up_row, up_k, ne_eq, Int.reduceEq, not_false_eq_true] at r48 ⊢)
      rw [e6 2]
      refine V_putIx 12 hx hF flX3_95 dX3_startSending_51 rfl rfl (fun r h => by cases h; rfl) (by assumption) (fx_word (by omega) _) (by omega) (Or.inl (by omega)) (fun hF => ?_)
      refine V_aload_0 hx dX3_startSending_54 ?_
      refine V_getRe hx flX3_11 dX3_startSending_55 rfl (k11 hN) (hF.1 11 1 17 rfl) ?_
      refine V_aload_0 hx dX3_startSending_58 ?_
      refine V_getIx 2 hx hF flX3_89 dX3_startSending_59 rfl rfl (k11 hN) (fun r59 => ?_)
      (try simp only [up_s, up_c, up_row, up_k, ne_eq, Int.reduceEq, not_false_eq_true] at r59 ⊢)
      rw [e6 2]
      refine V_aload_1 hx dX3_startSending_62 ?_
      refine V_aastorex hx hF dX3_startSending_63 (k17 hN) (by unfold refK; omega) (by decide) (by omega) (Or.inr hsh) (fx_none rfl _) (by omega) (Or.inl (by decide)) (fun hF => ?_)
      refine V_aload_0 hx dX3_startSending_64 ?_
      refine V_dupR hx dX3_startSending_65 ?_
      refine V_getIx 2 hx hF flX3_89 dX3_startSending_66 rfl rfl (k11 hN) (fun r66 => ?_)
      (try simp only [up_s, up_c, up_row, up_k, ne_eq, Int.reduceEq, not_false_eq_true] at r66 ⊢)
      rw [e6 2]
      refine V_iconst hx dX3_startSending_69 ?_
      refine V_iadd hx dX3_startSending_70 ?_
      refine V_putIx 2 hx hF flX3_89 dX3_startSending_71 rfl rfl (fun r h => by cases h; rfl) (k11 hN) rfl (by omega) (Or.inl (by decide)) (fun hF => ?_)
      refine V_aload_0 hx dX3_startSending_74 ?_
      refine V_aload_1 hx dX3_startSending_75 ?_
      refine V_putRx 5 hx hF flX3_56 dX3_startSending_76 rfl (Or.inl ⟨_, rfl⟩) (fun r h => by cases h; rfl) (k11 hN) rfl (by omega) (Or.inl (by decide)) (fun hF => ?_)
      refine V_return hx dX3_startSending_79 (by omega) (by omega) ?_
      first
        | exact ⟨rfl, eN, (by unfold gStart; rw [cif_t (by omega), ← ew, eI]), hF⟩
        | exact ⟨rfl, eN, (by unfold gStart; rw [cif_f (by omega), eI, cif_t (by omega)]), hF⟩
        | exact ⟨rfl, rfl, (by unfold gStart; rw [cif_f (by omega)]), hF⟩
    · refine V_return hx dX3_startSending_32 (by omega) (by omega) ?_
      first
        | exact ⟨rfl, eN, (by unfold gStart; rw [cif_t (by omega), ← ew, eI]), hF⟩
        | exact ⟨rfl, eN, (by unfold gStart; rw [cif_f (by omega), eI, cif_t (by omega)]), hF⟩
        | exact ⟨rfl, rfl, (by unfold gStart; rw [cif_f (by omega)]), hF⟩

set_option maxRecDepth 8000 in
theorem c_X3_finishSending {l : Launch} {d : Dd} {z : Nat} {N : Int} {I : Mm} (hN : 67 ≤ N) (hF : Fx I) (hsd : 67 ≤ I 11 5 ∧ I 11 5 < N) (h8 : 0 ≤ I 11 8 ∧ I 11 8 ≤ 100000) : Cn l d z yX3_finishSending cX3_finishSending 2 (some (.object "TurnPort$Word")) 0 0 0 0 [vR z 11] N I (pR z (fun r N' I' => r = I 11 5 ∧ N' = N ∧ I' = gFin I ∧ Fx I')) := by
  refine Cn.ofA [(vR z 11, false)] [some (vR z 11), none] RX3 (by decide) rfl ⟨cR z 11, trivial⟩ (Nat.le_of_ble_eq_true rfl) rfl (fun x ed el hx hini => ?_)
  have hsh := wdC (N := N) (a := I 11 5) (by omega) (by omega)
  refine V_aload_0 hx dX3_finishSending_0 ?_
  refine V_getRg 5 hx flX3_56 dX3_finishSending_1 rfl rfl (k11 hN) ?_
  refine V_astore_1 hx (by first | exact nc_I | exact nc_R | exact nc_n) dX3_finishSending_4 ?_
  refine V_aload_1 hx dX3_finishSending_5 ?_
  refine V_ifnull (tgt := 32) hx dX3_finishSending_6 (by decide) (fun h => absurd h (by omega)) (fun h6 => ?_)
  refine V_aload_1 hx dX3_finishSending_9 ?_
  refine V_iconst hx dX3_finishSending_10 ?_
  refine V_putIx 10 hx hF flX3_50 dX3_finishSending_11 rfl rfl (fun r h => by cases h; rfl) (by assumption) (fx_word (by omega) _) (by omega) (Or.inl (by omega)) (fun hF => ?_)
  refine V_aload_0 hx dX3_finishSending_14 ?_
  refine V_aload_1 hx dX3_finishSending_15 ?_
  refine V_getIx 8 hx hF flX3_98 dX3_finishSending_16 rfl rfl (by assumption) (fun r16 => ?_)
  (try simp only [up_s, up_c, up_row, up_k, ne_eq, Int.reduceEq, not_false_eq_true] at r16 ⊢)
  refine V_putIx 7 hx hF flX3_101 dX3_finishSending_19 rfl rfl (fun r h => by cases h; rfl) (k11 hN) rfl (by omega) (Or.inl (by decide)) (fun hF => ?_)
  refine V_aload_0 hx dX3_finishSending_22 ?_
  refine V_dupR hx dX3_finishSending_23 ?_
  refine V_getIx 8 hx hF flX3_104 dX3_finishSending_24 rfl rfl (k11 hN) (fun r24 => ?_)
  (try simp only [up_s, up_c, up_row, up_k, ne_eq, Int.reduceEq, not_false_eq_true] at r24 ⊢)
  refine V_iconst hx dX3_finishSending_27 ?_
  refine V_iadd hx dX3_finishSending_28 ?_
  refine V_putIx 8 hx hF flX3_104 dX3_finishSending_29 rfl rfl (fun r h => by cases h; rfl) (k11 hN) rfl (by omega) (Or.inl (by decide)) (fun hF => ?_)
  refine V_aload_0 hx dX3_finishSending_32 ?_
  refine V_null hx dX3_finishSending_33 ?_
  refine V_putRx 5 hx hF flX3_56 dX3_finishSending_34 rfl (Or.inl ⟨_, rfl⟩) (fun r h => by cases h; rfl) (k11 hN) rfl (by omega) (Or.inl (by decide)) (fun hF => ?_)
  refine V_aload_1 hx dX3_finishSending_37 ?_
  refine V_areturn hx dX3_finishSending_38 (by omega) (by omega) ?_
  exact ⟨_, rfl, rfl, rfl, rfl, hF⟩

set_option maxRecDepth 8000 in
theorem c_X3_goOn {l : Launch} {d : Dd} {z : Nat} {N : Int} {I : Mm} {t : Int} (hN : 67 ≤ N) (hF : Fx I) (hG : GoC I N) (hNb : N ≤ 2000) (ht : 0 ≤ t ∧ t ≤ 100000) : Cn l d z yX3_goOn cX3_goOn 3 (some (.object "TurnPort$Word")) 5 119 0 0 [vR z 11, vI t] N I (pR z (fun r N' I' => r = goA (goJ I) t ∧ N' = N ∧ I' = goM (goJ I) t ∧ Fx I')) := by
  refine Cn.ofA [(vR z 11, false), (vI t, false)] [some (vR z 11), some (vI t), none] RX3 (by decide) rfl ⟨cR z 11, rfl, trivial⟩ (Nat.le_of_ble_eq_true rfl) rfl (fun x ed el hx hini => ?_)
  have hsd := hG.2.1
  have hrest : ∀ J : Mm, Fx J → GoC J N → J = goJ I → V x z (pR z (fun r N' I' => r = goA (goJ I) t ∧ N' = N ∧ I' = goM (goJ I) t ∧ Fx I')) N J 0 0 11 [some (vR z 11), some (vI t), none] [] := by
    intro J hF hJ eJ
    obtain ⟨hS, h5, h6, h8, h2, hw⟩ := hJ
    refine V_aload_0 hx dX3_goOn_11 ?_
    refine V_getRg 5 hx flX3_56 dX3_goOn_12 rfl rfl (k11 hN) ?_
    refine V_ifnonnull (tgt := 29) hx dX3_goOn_15 (by decide) (fun h15 => ?_) (fun h15 => ?_)
    · have hsh := wdC (N := N) (a := J 11 5) (by omega) (by omega)
      have hw5 := hw (J 11 5) (by omega) (by omega)
      refine V_aload_0 hx dX3_goOn_29 ?_
      refine V_getRg 5 hx flX3_56 dX3_goOn_30 rfl rfl (k11 hN) ?_
      refine V_getIx 11 hx hF flX3_67 dX3_goOn_33 rfl rfl (by assumption) (fun r33 => ?_)
      refine V_aload_0 hx dX3_goOn_36 ?_
      refine V_getRg 5 hx flX3_56 dX3_goOn_37 rfl rfl (k11 hN) ?_
      refine V_getIx 4 hx hF flX3_70 dX3_goOn_40 rfl rfl (by assumption) (fun r40 => ?_)
      refine V_iadd hx dX3_goOn_43 ?_
      refine V_topI (goC J t) (by unfold goC; first | rw [cif_t (by omega)] | rw [cif_f (by omega)]) ?_
      have hch : -2147483648 ≤ goC J t ∧ goC J t ≤ 2147483647 := by unfold goC; first | (rw [cif_t (by omega)]; omega) | (rw [cif_f (by omega)]; omega)
      refine V_istore_2 hx (by first | exact nc_I | exact nc_R | exact nc_n) dX3_goOn_44 ?_
      refine V_aload_0 hx dX3_goOn_45 ?_
      refine V_iload_1 hx dX3_goOn_46 ?_
      refine V_aload_0 hx dX3_goOn_47 ?_
      refine V_getIx 6 hx hF flX3_73 dX3_goOn_48 rfl rfl (k11 hN) (fun r48 => ?_)
      refine V_iconst hx dX3_goOn_51 ?_
      refine V_iadd hx dX3_goOn_52 ?_
      refine V_iload_2 hx dX3_goOn_53 ?_
      refine V_s2Q hx el ed (c_J9_max_7cf53 (by omega) (by omega)) myJ9_max_7cf53 mlX3_76 dX3_goOn_54 (by decide) (by omega) rfl (by first | exact Nat.le_of_ble_eq_true rfl | simp [vI, vL, vR_cat, Value.category]) (fun r54 => ?_)
      refine V_s2Q hx el ed (c_J9_min_7cf53 (by omega) (by omega)) myJ9_min_7cf53 mlX3_82 dX3_goOn_57 (by decide) (by omega) rfl (by first | exact Nat.le_of_ble_eq_true rfl | simp [vI, vL, vR_cat, Value.category]) (fun r57 => ?_)
      refine V_topI (goN J t) rfl ?_
      have hgn : -2147483648 ≤ goN J t ∧ goN J t ≤ 2147483647 := by unfold goN; omega
      have e5 : up J 11 6 (goN J t) 11 5 = J 11 5 := up_k (by decide)
      have e8 : up J 11 6 (goN J t) 11 8 = J 11 8 := up_k (by decide)
      refine V_putIx 6 hx hF flX3_73 dX3_goOn_60 rfl rfl (fun r h => by cases h; rfl) (k11 hN) rfl (by omega) (Or.inl (by decide)) (fun hF => ?_)
      refine V_aload_0 hx dX3_goOn_63 ?_
      refine V_getRg 5 hx flX3_56 dX3_goOn_64 rfl rfl (k11 hN) ?_
      rw [e5]
      refine V_ifnull (tgt := 85) hx dX3_goOn_67 (by decide) (fun h67 => ?_) (fun h67 => ?_)
      · refine V_null hx dX3_goOn_85 ?_
        refine V_areturn hx dX3_goOn_86 (by omega) (by omega) ?_
        first
          | exact ⟨_, rfl, (by rw [← eJ]; unfold goA; rw [cif_t (by omega), er, e5]), eN, (by rw [← eJ]; unfold goM; rw [cif_t (by omega)]; exact eI), hF⟩
          | exact ⟨-1, rfl, (by rw [← eJ]; unfold goA; rw [cif_f (by omega)]), rfl, (by rw [← eJ]; unfold goM; rw [cif_f (by omega)]), hF⟩
      · refine V_aload_0 hx dX3_goOn_70 ?_
        refine V_getIx 6 hx hF flX3_73 dX3_goOn_71 rfl rfl (k11 hN) (fun r71 => ?_)
        (try simp only [up_s, up_c, up_row, up_k, ne_eq, Int.reduceEq, not_false_eq_true] at r71 ⊢)
        refine V_iload_2 hx dX3_goOn_74 ?_
        refine V_icmp_lt (tgt := 85) hx dX3_goOn_75 (by decide) (by omega) (by omega) (fun h75 => ?_) (fun h75 => ?_)
        · refine V_null hx dX3_goOn_85 ?_
          refine V_areturn hx dX3_goOn_86 (by omega) (by omega) ?_
          first
            | exact ⟨_, rfl, (by rw [← eJ]; unfold goA; rw [cif_t (by omega), er, e5]), eN, (by rw [← eJ]; unfold goM; rw [cif_t (by omega)]; exact eI), hF⟩
            | exact ⟨-1, rfl, (by rw [← eJ]; unfold goA; rw [cif_f (by omega)]), rfl, (by rw [← eJ]; unfold goM; rw [cif_f (by omega)]), hF⟩
        · refine V_aload_0 hx dX3_goOn_78 ?_
          refine V_v0R hx el ed (c_X3_finishSending hN hF (by omega) (by omega)) myX3_finishSending mlX3_85 dX3_goOn_79 ⟨_, rfl, rfl⟩ (k11 hN) (by decide) (by omega) rfl (by first | exact Nat.le_of_ble_eq_true rfl | simp [vI, vL, vR_cat, Value.category]) (fun r N1 I1 ⟨er, eN, eI, hF⟩ => ?_)
          refine V_goto (tgt := 86) hx dX3_goOn_82 (by decide) ?_
          refine V_areturn hx dX3_goOn_86 (by omega) (by omega) ?_
          first
            | exact ⟨_, rfl, (by rw [← eJ]; unfold goA; rw [cif_t (by omega), er, e5]), eN, (by rw [← eJ]; unfold goM; rw [cif_t (by omega)]; exact eI), hF⟩
            | exact ⟨-1, rfl, (by rw [← eJ]; unfold goA; rw [cif_f (by omega)]), rfl, (by rw [← eJ]; unfold goM; rw [cif_f (by omega)]), hF⟩
    · refine V_aload_0 hx dX3_goOn_18 ?_
      refine V_getRe hx flX3_21 dX3_goOn_19 rfl (k11 hN) (hF.1 11 0 12 rfl) ?_
      refine V_iload_1 hx dX3_goOn_22 ?_
      refine V_v1Q hx el ed (c_X6_firstGate hN hF hS (by omega)) myX6_firstGate mlX3_63 dX3_goOn_23 ⟨_, rfl, rfl⟩ (k12 hN) (by decide) (by omega) rfl (by first | exact Nat.le_of_ble_eq_true rfl | simp [vI, vL, vR_cat, Value.category]) (fun r23 => ?_)
      refine V_goto (tgt := 44) hx dX3_goOn_26 (by decide) ?_
      refine V_topI (goC J t) (by unfold goC; first | rw [cif_t (by omega)] | rw [cif_f (by omega)]) ?_
      have hch : -2147483648 ≤ goC J t ∧ goC J t ≤ 2147483647 := by unfold goC; first | (rw [cif_t (by omega)]; omega) | (rw [cif_f (by omega)]; omega)
      refine V_istore_2 hx (by first | exact nc_I | exact nc_R | exact nc_n) dX3_goOn_44 ?_
      refine V_aload_0 hx dX3_goOn_45 ?_
      refine V_iload_1 hx dX3_goOn_46 ?_
      refine V_aload_0 hx dX3_goOn_47 ?_
      refine V_getIx 6 hx hF flX3_73 dX3_goOn_48 rfl rfl (k11 hN) (fun r48 => ?_)
      refine V_iconst hx dX3_goOn_51 ?_
      refine V_iadd hx dX3_goOn_52 ?_
      refine V_iload_2 hx dX3_goOn_53 ?_
      refine V_s2Q hx el ed (c_J9_max_7cf53 (by omega) (by omega)) myJ9_max_7cf53 mlX3_76 dX3_goOn_54 (by decide) (by omega) rfl (by first | exact Nat.le_of_ble_eq_true rfl | simp [vI, vL, vR_cat, Value.category]) (fun r54 => ?_)
      refine V_s2Q hx el ed (c_J9_min_7cf53 (by omega) (by omega)) myJ9_min_7cf53 mlX3_82 dX3_goOn_57 (by decide) (by omega) rfl (by first | exact Nat.le_of_ble_eq_true rfl | simp [vI, vL, vR_cat, Value.category]) (fun r57 => ?_)
      refine V_topI (goN J t) rfl ?_
      have hgn : -2147483648 ≤ goN J t ∧ goN J t ≤ 2147483647 := by unfold goN; omega
      have e5 : up J 11 6 (goN J t) 11 5 = J 11 5 := up_k (by decide)
      have e8 : up J 11 6 (goN J t) 11 8 = J 11 8 := up_k (by decide)
      refine V_putIx 6 hx hF flX3_73 dX3_goOn_60 rfl rfl (fun r h => by cases h; rfl) (k11 hN) rfl (by omega) (Or.inl (by decide)) (fun hF => ?_)
      refine V_aload_0 hx dX3_goOn_63 ?_
      refine V_getRg 5 hx flX3_56 dX3_goOn_64 rfl rfl (k11 hN) ?_
      rw [e5]
      refine V_ifnull (tgt := 85) hx dX3_goOn_67 (by decide) (fun h67 => ?_) (fun h67 => ?_)
      · refine V_null hx dX3_goOn_85 ?_
        refine V_areturn hx dX3_goOn_86 (by omega) (by omega) ?_
        first
          | exact ⟨_, rfl, (by rw [← eJ]; unfold goA; rw [cif_t (by omega), er, e5]), eN, (by rw [← eJ]; unfold goM; rw [cif_t (by omega)]; exact eI), hF⟩
          | exact ⟨-1, rfl, (by rw [← eJ]; unfold goA; rw [cif_f (by omega)]), rfl, (by rw [← eJ]; unfold goM; rw [cif_f (by omega)]), hF⟩
      · refine V_aload_0 hx dX3_goOn_70 ?_
        refine V_getIx 6 hx hF flX3_73 dX3_goOn_71 rfl rfl (k11 hN) (fun r71 => ?_)
        (try simp only [up_s, up_c, up_row, up_k, ne_eq, Int.reduceEq, not_false_eq_true] at r71 ⊢)
        refine V_iload_2 hx dX3_goOn_74 ?_
        refine V_icmp_lt (tgt := 85) hx dX3_goOn_75 (by decide) (by omega) (by omega) (fun h75 => ?_) (fun h75 => ?_)
        · refine V_null hx dX3_goOn_85 ?_
          refine V_areturn hx dX3_goOn_86 (by omega) (by omega) ?_
          first
            | exact ⟨_, rfl, (by rw [← eJ]; unfold goA; rw [cif_t (by omega), er, e5]), eN, (by rw [← eJ]; unfold goM; rw [cif_t (by omega)]; exact eI), hF⟩
            | exact ⟨-1, rfl, (by rw [← eJ]; unfold goA; rw [cif_f (by omega)]), rfl, (by rw [← eJ]; unfold goM; rw [cif_f (by omega)]), hF⟩
        · refine V_aload_0 hx dX3_goOn_78 ?_
          refine V_v0R hx el ed (c_X3_finishSending hN hF (by omega) (by omega)) myX3_finishSending mlX3_85 dX3_goOn_79 ⟨_, rfl, rfl⟩ (k11 hN) (by decide) (by omega) rfl (by first | exact Nat.le_of_ble_eq_true rfl | simp [vI, vL, vR_cat, Value.category]) (fun r N1 I1 ⟨er, eN, eI, hF⟩ => ?_)
          refine V_goto (tgt := 86) hx dX3_goOn_82 (by decide) ?_
          refine V_areturn hx dX3_goOn_86 (by omega) (by omega) ?_
          first
            | exact ⟨_, rfl, (by rw [← eJ]; unfold goA; rw [cif_t (by omega), er, e5]), eN, (by rw [← eJ]; unfold goM; rw [cif_t (by omega)]; exact eI), hF⟩
            | exact ⟨-1, rfl, (by rw [← eJ]; unfold goA; rw [cif_f (by omega)]), rfl, (by rw [← eJ]; unfold goM; rw [cif_f (by omega)]), hF⟩
  refine V_aload_0 hx dX3_goOn_0 ?_
  refine V_getRg 5 hx flX3_56 dX3_goOn_1 rfl rfl (k11 hN) ?_
  refine V_ifnonnull (tgt := 11) hx dX3_goOn_4 (by decide) (fun h4 => ?_) (fun h4 => ?_)
  · first
      | exact hrest _ hF (by rw [eI]; exact GoC_start hG (by omega)) (by rw [eI]; unfold goJ; rw [cif_t (by omega)])
      | exact hrest _ hF hG (by unfold goJ; rw [cif_f (by omega)])
  · refine V_aload_0 hx dX3_goOn_7 ?_
    refine V_v0N hx el ed (c_X3_startSending hN hF hG.1 (by have := hG.2.2.2.2.1; omega) (by omega)) myX3_startSending mlX3_60 dX3_goOn_8 ⟨_, rfl, rfl⟩ (k11 hN) (by decide) (by omega) rfl (by first | exact Nat.le_of_ble_eq_true rfl | simp [vI, vL, vR_cat, Value.category]) (fun N1 I1 ⟨eN, eI, hF⟩ => ?_)
    subst eN
    first
      | exact hrest _ hF (by rw [eI]; exact GoC_start hG (by omega)) (by rw [eI]; unfold goJ; rw [cif_t (by omega)])
      | exact hrest _ hF hG (by unfold goJ; rw [cif_f (by omega)])

set_option maxRecDepth 8000 in
theorem c_X3_turnAt {l : Launch} {d : Dd} {z : Nat} {N : Int} {I : Mm} {i : Int} (hN : 67 ≤ N) (hF : Fx I) (hi : -2147483648 ≤ i ∧ i ≤ 2147483647) (hT : I 11 2 ≤ 1000) : Cn l d z yX3_turnAt cX3_turnAt 2 (some (.object "TurnPort$Word")) 0 0 0 0 [vR z 11, vI i] N I (pv (vR z (cif (0 ≤ i ∧ i < I 11 2) (I 17 i) (-1))) N I) := by
  refine Cn.ofA [(vR z 11, false), (vI i, false)] [some (vR z 11), some (vI i)] RX3 (by decide) rfl ⟨cR z 11, rfl, trivial⟩ (Nat.le_of_ble_eq_true rfl) rfl (fun x ed el hx hini => ?_)
  refine V_iload_1 hx dX3_turnAt_0 ?_
  refine V_if_lt (tgt := 21) hx dX3_turnAt_1 (by decide) (by omega) (fun h1 => ?_) (fun h1 => ?_)
  · refine V_null hx dX3_turnAt_21 ?_
    refine V_goto (tgt := 31) hx dX3_turnAt_22 (by decide) ?_
    refine V_areturn hx dX3_turnAt_31 (by omega) (by omega) ?_
    exact ⟨by first | (exfalso; omega) | rw [cif_t (by omega)] | rw [cif_f (by omega)], rfl, rfl⟩
  · refine V_iload_1 hx dX3_turnAt_4 ?_
    refine V_aload_0 hx dX3_turnAt_5 ?_
    refine V_getIx 2 hx hF flX3_89 dX3_turnAt_6 rfl rfl (k11 hN) (fun r6 => ?_)
    refine V_icmp_ge (tgt := 21) hx dX3_turnAt_9 (by decide) (by omega) (by omega) (fun h9 => ?_) (fun h9 => ?_)
    · refine V_null hx dX3_turnAt_21 ?_
      refine V_goto (tgt := 31) hx dX3_turnAt_22 (by decide) ?_
      refine V_areturn hx dX3_turnAt_31 (by omega) (by omega) ?_
      exact ⟨by first | (exfalso; omega) | rw [cif_t (by omega)] | rw [cif_f (by omega)], rfl, rfl⟩
    · refine V_iload_1 hx dX3_turnAt_12 ?_
      refine V_aload_0 hx dX3_turnAt_13 ?_
      refine V_getRe hx flX3_11 dX3_turnAt_14 rfl (k11 hN) (hF.1 11 1 17 rfl) ?_
      refine V_alen hx dX3_turnAt_17 (k17 hN) (by unfold tyK; omega) ?_
      refine V_icmp_lt (tgt := 25) hx dX3_turnAt_18 (by decide) (by omega) (by omega) (fun h18 => ?_) (fun h18 => ?_)
      · refine V_aload_0 hx dX3_turnAt_25 ?_
        refine V_getRe hx flX3_11 dX3_turnAt_26 rfl (k11 hN) (hF.1 11 1 17 rfl) ?_
        refine V_iload_1 hx dX3_turnAt_29 ?_
        refine V_aaload hx dX3_turnAt_30 (k17 hN) (by unfold refK; omega) (by decide) (by omega) ?_
        refine V_areturn hx dX3_turnAt_31 (by omega) (by omega) ?_
        exact ⟨by first | (exfalso; omega) | rw [cif_t (by omega)] | rw [cif_f (by omega)], rfl, rfl⟩
      · refine V_null hx dX3_turnAt_21 ?_
        refine V_goto (tgt := 31) hx dX3_turnAt_22 (by decide) ?_
        refine V_areturn hx dX3_turnAt_31 (by omega) (by omega) ?_
        exact ⟨by first | (exfalso; omega) | rw [cif_t (by omega)] | rw [cif_f (by omega)], rfl, rfl⟩

set_option maxRecDepth 8000 in
theorem c_X3_overtakers {l : Launch} {d : Dd} {z : Nat} {N : Int} {I : Mm} {b : Int} (hN : 67 ≤ N) (hF : Fx I) (hb : shk N b (0, 9)) (hT : 0 ≤ I b 12 ∧ I b 12 ≤ I 11 2 ∧ I 11 2 ≤ 1000) (hR : ∀ i : Int, 0 ≤ i → i < I 11 2 → 67 ≤ I 17 i ∧ I 17 i < N) : Cn l d z yX3_overtakers cX3_overtakers 4 (some .int) 0 0 0 0 [vR z 11, vR z b] N I (pq (cntW (fun i => I b 0 < I (I 17 i) 0) (I b 12).toNat) N I) := by
  refine Cn.ofA [(vR z 11, false), (vR z b, false)] [some (vR z 11), some (vR z b), none, none] RX3 (by decide) rfl ⟨cR z 11, cR z b, trivial⟩ (Nat.le_of_ble_eq_true rfl) rfl (fun x ed el hx hini => ?_)
  refine V_iconst hx dX3_overtakers_0 ?_
  refine V_istore_2 hx (by first | exact nc_I | exact nc_R | exact nc_n) dX3_overtakers_1 ?_
  refine V_iconst hx dX3_overtakers_2 ?_
  refine V_istore_3 hx (by first | exact nc_I | exact nc_R | exact nc_n) dX3_overtakers_3 ?_
  refine loop_fld (α := Int) (fun acc i => acc + cif (I b 0 < I (I 17 i) 0) 1 0) 0 (I b 12) hT.1 (fun i acc => V x z _ N I 0 0 4 [some (vR z 11), some (vR z b), some (vI acc), some (vI i)] []) ?_ ?_
  · refine V_iload_3 hx dX3_overtakers_4 ?_
    refine V_aload_1 hx dX3_overtakers_5 ?_
    refine V_getIx 12 hx hF flX3_95 dX3_overtakers_6 rfl rfl hb (fun r6 => ?_)
    refine V_icmp_ge (tgt := 50) hx dX3_overtakers_9 (by decide) (by omega) (by omega) (fun h9 => ?_) (fun h9 => ?_)
    · refine V_iload_2 hx dX3_overtakers_50 ?_
      refine V_ireturn hx dX3_overtakers_51 (by omega) (by omega) ?_
      exact ⟨rfl, rfl, rfl, by have := cntW_b (fun i => I b 0 < I (I 17 i) 0) (I b 12).toNat; omega⟩
    · exfalso; omega
  · intro i hi0 hi1 ih
    generalize fld _ _ _ = acc at ih ⊢
    have hen := hR i hi0 (by omega)
    have hsh := wdC hen.1 hen.2
    refine V_iload_3 hx dX3_overtakers_4 ?_
    refine V_aload_1 hx dX3_overtakers_5 ?_
    refine V_getIx 12 hx hF flX3_95 dX3_overtakers_6 rfl rfl hb (fun r6 => ?_)
    refine V_icmp_ge (tgt := 50) hx dX3_overtakers_9 (by decide) (by omega) (by omega) (fun h9 => ?_) (fun h9 => ?_)
    · exfalso; omega
    · refine V_iload_3 hx dX3_overtakers_12 ?_
      refine V_aload_0 hx dX3_overtakers_13 ?_
      refine V_getIx 2 hx hF flX3_89 dX3_overtakers_14 rfl rfl (k11 hN) (fun r14 => ?_)
      refine V_icmp_ge (tgt := 50) hx dX3_overtakers_17 (by decide) (by omega) (by omega) (fun h17 => ?_) (fun h17 => ?_)
      · exfalso; omega
      · refine V_iload_2 hx dX3_overtakers_20 ?_
        refine V_aload_0 hx dX3_overtakers_21 ?_
        refine V_getRe hx flX3_11 dX3_overtakers_22 rfl (k11 hN) (hF.1 11 1 17 rfl) ?_
        refine V_iload_3 hx dX3_overtakers_25 ?_
        refine V_aaload hx dX3_overtakers_26 (k17 hN) (by unfold refK; omega) (by decide) (by omega) ?_
        refine V_getIx 0 hx hF flX3_107 dX3_overtakers_27 rfl rfl (by assumption) (fun r27 => ?_)
        refine V_aload_1 hx dX3_overtakers_30 ?_
        refine V_getIx 0 hx hF flX3_107 dX3_overtakers_31 rfl rfl hb (fun r31 => ?_)
        refine V_icmp_le (tgt := 41) hx dX3_overtakers_34 (by decide) (by omega) (by omega) (fun h34 => ?_) (fun h34 => ?_)
        · refine V_iconst hx dX3_overtakers_41 ?_
          refine V_iadd hx dX3_overtakers_42 ?_
          refine V_istore_2 hx (by first | exact nc_I | exact nc_R | exact nc_n) dX3_overtakers_43 ?_
          refine V_iinc_3 hx (by first | exact nc_I | exact nc_R | exact nc_n) dX3_overtakers_44 ?_
          refine V_goto (tgt := 4) hx dX3_overtakers_47 (by decide) ?_
          first | exact ih | (rw [cif_t (by first | omega | simp_all)] at ih; exact ih) | (rw [cif_f (by first | omega | simp_all)] at ih; exact ih)
        · refine V_iconst hx dX3_overtakers_37 ?_
          refine V_goto (tgt := 42) hx dX3_overtakers_38 (by decide) ?_
          refine V_iadd hx dX3_overtakers_42 ?_
          refine V_istore_2 hx (by first | exact nc_I | exact nc_R | exact nc_n) dX3_overtakers_43 ?_
          refine V_iinc_3 hx (by first | exact nc_I | exact nc_R | exact nc_n) dX3_overtakers_44 ?_
          refine V_goto (tgt := 4) hx dX3_overtakers_47 (by decide) ?_
          first | exact ih | (rw [cif_t (by first | omega | simp_all)] at ih; exact ih) | (rw [cif_f (by first | omega | simp_all)] at ih; exact ih)

set_option maxRecDepth 8000 in
theorem c_X3_overtaker {l : Launch} {d : Dd} {z : Nat} {N : Int} {I : Mm} {b k : Int} (hN : 67 ≤ N) (hF : Fx I) (hb : shk N b (0, 9)) (hT : 0 ≤ I b 12 ∧ I b 12 ≤ I 11 2 ∧ I 11 2 ≤ 1000) (hR : ∀ i : Int, 0 ≤ i → i < I 11 2 → 67 ≤ I 17 i ∧ I 17 i < N) (hk : 0 ≤ k ∧ k ≤ 2147483647) : Cn l d z yX3_overtaker cX3_overtaker 5 (some .int) 0 0 0 0 [vR z 11, vR z b, vI k] N I (pI (fun r N' I' => N' = N ∧ I' = I ∧ ovR I b k r)) := by
  refine Cn.ofA [(vR z 11, false), (vR z b, false), (vI k, false)] [some (vR z 11), some (vR z b), some (vI k), none, none] RX3 (by decide) rfl ⟨cR z 11, cR z b, rfl, trivial⟩ (Nat.le_of_ble_eq_true rfl) rfl (fun x ed el hx hini => ?_)
  refine V_iconst hx dX3_overtaker_0 ?_
  refine V_istore_3 hx (by first | exact nc_I | exact nc_R | exact nc_n) dX3_overtaker_1 ?_
  refine V_iconst hx dX3_overtaker_2 ?_
  refine V_istore_4 hx (by first | exact nc_I | exact nc_R | exact nc_n) dX3_overtaker_3 ?_
  refine loop_inv (α := Int) 0 (I b 12) hT.1 (fun i s => s = cntW (fun i => I b 0 < I (I 17 i) 0) i.toNat ∧ 0 ≤ s ∧ s ≤ k ∧ s ≤ i) (fun i s => V x z _ N I 0 0 5 [some (vR z 11), some (vR z b), some (vI k), some (vI s), some (vI i)] []) ?_ ?_ 0 ⟨rfl, by omega, by omega, by omega⟩
  · rintro s ⟨es, s0, s1, s2⟩
    refine V_iload_4 hx dX3_overtaker_5 ?_
    refine V_aload_1 hx dX3_overtaker_7 ?_
    refine V_getIx 12 hx hF flX3_95 dX3_overtaker_8 rfl rfl hb (fun r8 => ?_)
    refine V_icmp_ge (tgt := 65) hx dX3_overtaker_11 (by decide) (by omega) (by omega) (fun h11 => ?_) (fun h11 => ?_)
    · refine V_bipush hx dX3_overtaker_65 (by decide) ?_
      refine V_ireturn hx dX3_overtaker_67 (by omega) (by omega) ?_
      first
        | exact ⟨_, rfl, rfl, rfl, Or.inl ⟨i, hi0, hi1, by omega, by omega, rfl⟩⟩
        | exact ⟨_, rfl, rfl, rfl, Or.inr ⟨by omega, rfl⟩⟩
    · exfalso; omega
  · rintro i s hi0 hi1 ⟨es, s0, s1, s2⟩ ih
    have hen := hR i hi0 (by omega)
    have hsh := wdC hen.1 hen.2
    refine V_iload_4 hx dX3_overtaker_5 ?_
    refine V_aload_1 hx dX3_overtaker_7 ?_
    refine V_getIx 12 hx hF flX3_95 dX3_overtaker_8 rfl rfl hb (fun r8 => ?_)
    refine V_icmp_ge (tgt := 65) hx dX3_overtaker_11 (by decide) (by omega) (by omega) (fun h11 => ?_) (fun h11 => ?_)
    · exfalso; omega
    · refine V_iload_4 hx dX3_overtaker_14 ?_
      refine V_aload_0 hx dX3_overtaker_16 ?_
      refine V_getIx 2 hx hF flX3_89 dX3_overtaker_17 rfl rfl (k11 hN) (fun r17 => ?_)
      refine V_icmp_ge (tgt := 65) hx dX3_overtaker_20 (by decide) (by omega) (by omega) (fun h20 => ?_) (fun h20 => ?_)
      · exfalso; omega
      · refine V_aload_0 hx dX3_overtaker_23 ?_
        refine V_getRe hx flX3_11 dX3_overtaker_24 rfl (k11 hN) (hF.1 11 1 17 rfl) ?_
        refine V_iload_4 hx dX3_overtaker_27 ?_
        refine V_aaload hx dX3_overtaker_29 (k17 hN) (by unfold refK; omega) (by decide) (by omega) ?_
        refine V_getIx 0 hx hF flX3_107 dX3_overtaker_30 rfl rfl (by assumption) (fun r30 => ?_)
        refine V_aload_1 hx dX3_overtaker_33 ?_
        refine V_getIx 0 hx hF flX3_107 dX3_overtaker_34 rfl rfl hb (fun r34 => ?_)
        refine V_icmp_le (tgt := 59) hx dX3_overtaker_37 (by decide) (by omega) (by omega) (fun h37 => ?_) (fun h37 => ?_)
        · refine V_iinc_4 hx (by first | exact nc_I | exact nc_R | exact nc_n) dX3_overtaker_59 ?_
          refine V_goto (tgt := 5) hx dX3_overtaker_62 (by decide) ?_
          first | exact ih (s + 1) ⟨by rw [cntW_s _ hi0, cif_t (by omega), es], by omega, by omega, by omega⟩ | exact ih s ⟨by rw [cntW_s _ hi0, cif_f (by omega), es, Int.add_zero], by omega, by omega, by omega⟩
        · refine V_iload_3 hx dX3_overtaker_40 ?_
          refine V_iload_2 hx dX3_overtaker_41 ?_
          refine V_icmp_ne (tgt := 56) hx dX3_overtaker_42 (by decide) (by omega) (by omega) (fun h42 => ?_) (fun h42 => ?_)
          · refine V_iinc_3 hx (by first | exact nc_I | exact nc_R | exact nc_n) dX3_overtaker_56 ?_
            refine V_iinc_4 hx (by first | exact nc_I | exact nc_R | exact nc_n) dX3_overtaker_59 ?_
            refine V_goto (tgt := 5) hx dX3_overtaker_62 (by decide) ?_
            first | exact ih (s + 1) ⟨by rw [cntW_s _ hi0, cif_t (by omega), es], by omega, by omega, by omega⟩ | exact ih s ⟨by rw [cntW_s _ hi0, cif_f (by omega), es, Int.add_zero], by omega, by omega, by omega⟩
          · refine V_aload_0 hx dX3_overtaker_45 ?_
            refine V_getRe hx flX3_11 dX3_overtaker_46 rfl (k11 hN) (hF.1 11 1 17 rfl) ?_
            refine V_iload_4 hx dX3_overtaker_49 ?_
            refine V_aaload hx dX3_overtaker_51 (k17 hN) (by unfold refK; omega) (by decide) (by omega) ?_
            refine V_getIx 0 hx hF flX3_107 dX3_overtaker_52 rfl rfl (by assumption) (fun r52 => ?_)
            refine V_ireturn hx dX3_overtaker_55 (by omega) (by omega) ?_
            first
              | exact ⟨_, rfl, rfl, rfl, Or.inl ⟨i, hi0, hi1, by omega, by omega, rfl⟩⟩
              | exact ⟨_, rfl, rfl, rfl, Or.inr ⟨by omega, rfl⟩⟩

