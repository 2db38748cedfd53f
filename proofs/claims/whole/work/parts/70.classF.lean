set_option maxRecDepth 8000 in
theorem c_X8_isDigit {l : Launch} {d : Dd} {z : Nat} {N : Int} {I : Mm} {c : Int} (hc : -2147483648 ≤ c ∧ c ≤ 2147483647) : Cn l d z yX8_isDigit cX8_isDigit 1 (some .boolean) 0 0 0 0 [vI c] N I (pv (vB (48 ≤ c ∧ c ≤ 57)) N I) := by
  refine Cn.ofA [(vI c, false)] [some (vI c)] RX8 (by decide) rfl ⟨rfl, trivial⟩ (Nat.le_of_ble_eq_true rfl) rfl (fun x ed el hx hini => ?_)
  refine V_iload_0 hx dX8_isDigit_0 ?_
  refine V_bipush hx dX8_isDigit_1 (by decide) ?_
  refine V_icmp_lt (tgt := 16) hx dX8_isDigit_3 (by decide) (by omega) (by omega) (fun h3 => ?_) (fun h3 => ?_)
  · refine V_iconst hx dX8_isDigit_16 ?_
    refine V_zreturn hx dX8_isDigit_17 (by first | omega | exact cif01 _) (by omega) (by omega) ?_
    first | exact ⟨by rw [vB_t (by omega)], rfl, rfl⟩ | exact ⟨by rw [vB_f (by omega)], rfl, rfl⟩
  · refine V_iload_0 hx dX8_isDigit_6 ?_
    refine V_bipush hx dX8_isDigit_7 (by decide) ?_
    refine V_icmp_gt (tgt := 16) hx dX8_isDigit_9 (by decide) (by omega) (by omega) (fun h9 => ?_) (fun h9 => ?_)
    · refine V_iconst hx dX8_isDigit_16 ?_
      refine V_zreturn hx dX8_isDigit_17 (by first | omega | exact cif01 _) (by omega) (by omega) ?_
      first | exact ⟨by rw [vB_t (by omega)], rfl, rfl⟩ | exact ⟨by rw [vB_f (by omega)], rfl, rfl⟩
    · refine V_iconst hx dX8_isDigit_12 ?_
      refine V_goto (tgt := 17) hx dX8_isDigit_13 (by decide) ?_
      refine V_zreturn hx dX8_isDigit_17 (by first | omega | exact cif01 _) (by omega) (by omega) ?_
      first | exact ⟨by rw [vB_t (by omega)], rfl, rfl⟩ | exact ⟨by rw [vB_f (by omega)], rfl, rfl⟩

set_option maxRecDepth 8000 in
theorem c_X8_faultAt {l : Launch} {d : Dd} {z : Nat} {N : Int} {I : Mm} {c : Int}  : Cn l d z yX8_faultAt cX8_faultAt 1 (some .int) 0 0 0 0 [vI c] N I (pv (vI (-20 - c)) N I) := by
  refine Cn.ofA [(vI c, false)] [some (vI c)] RX8 (by decide) rfl ⟨rfl, trivial⟩ (Nat.le_of_ble_eq_true rfl) rfl (fun x ed el hx hini => ?_)
  refine V_bipush hx dX8_faultAt_0 (by decide) ?_
  refine V_iload_0 hx dX8_faultAt_2 ?_
  refine V_isub hx dX8_faultAt_3 ?_
  refine V_ireturn hx dX8_faultAt_4 (by omega) (by omega) ?_
  exact ⟨rfl, rfl, rfl⟩

set_option maxRecDepth 8000 in
theorem c_X8_byteOf {l : Launch} {d : Dd} {z : Nat} {N : Int} {I : Mm} {w k : Int} (hk : 0 ≤ k ∧ k ≤ 7) : Cn l d z yX8_byteOf cX8_byteOf 3 (some .int) 0 0 0 0 [vL w, vI k] N I (pq (bt w k) N I) := by
  refine Cn.ofA [(vL w, true), (vI k, false)] [some (vL w), none, some (vI k)] RX8 (by decide) rfl ⟨rfl, rfl, trivial⟩ (Nat.le_of_ble_eq_true rfl) rfl (fun x ed el hx hini => ?_)
  refine V_lload_0 hx dX8_byteOf_0 ?_
  refine V_bipush hx dX8_byteOf_1 (by decide) ?_
  refine V_iload_2 hx dX8_byteOf_3 ?_
  refine V_imul hx dX8_byteOf_4 ?_
  refine V_lushr hx _ dX8_byteOf_5 (oL_ushrk hk) ?_
  refine V_l2i hx dX8_byteOf_6 ?_
  refine V_sipush hx dX8_byteOf_7 (by decide) ?_
  refine V_iand hx (bt w k) dX8_byteOf_10 (by rw [oI_and255, bt_u hk]) ?_
  refine V_ireturn hx dX8_byteOf_11 (by omega) (by omega) ?_
  exact ⟨rfl, rfl, rfl, by have := bt_b w k; omega⟩

set_option maxRecDepth 8000 in
theorem c_X8_canHold {l : Launch} {d : Dd} {z : Nat} {N : Int} {I : Mm} {w n : Int} (hn : 1 ≤ n ∧ n ≤ 8) : Cn l d z yX8_canHold cX8_canHold 5 (some .boolean) 1 22 0 0 [vL w, vI n] N I (pv (vB (okB w n)) N I) := by
  refine Cn.ofA [(vL w, true), (vI n, false)] [some (vL w), none, some (vI n), none, none] RX8 (by decide) rfl ⟨rfl, rfl, trivial⟩ (Nat.le_of_ble_eq_true rfl) rfl (fun x ed el hx hini => ?_)
  refine V_iconst hx dX8_canHold_0 ?_
  refine V_istore_3 hx (by first | exact nc_I | exact nc_R | exact nc_n) dX8_canHold_1 ?_
  refine loop_inv (α := Unit) 0 n (by omega) (fun i _ => okB w i) (fun i _ => V x z _ N I 0 0 2 [some (vL w), none, some (vI n), some (vI i), none] []) ?_ ?_ () (fun k a b => by omega)
  · rintro _ hok
    refine V_iload_3 hx dX8_canHold_2 ?_
    refine V_iload_2 hx dX8_canHold_3 ?_
    refine V_icmp_ge (tgt := 36) hx dX8_canHold_4 (by decide) (by omega) (by omega) (fun h4 => ?_) (fun h4 => ?_)
    · refine V_iconst hx dX8_canHold_36 ?_
      refine V_zreturn hx dX8_canHold_37 (by first | omega | exact cif01 _) (by omega) (by omega) ?_
      exact ⟨by rw [vB_t hok], rfl, rfl⟩
    · exfalso; omega
  · rintro i _ hi0 hi1 hok ih
    refine V_iload_3 hx dX8_canHold_2 ?_
    refine V_iload_2 hx dX8_canHold_3 ?_
    refine V_icmp_ge (tgt := 36) hx dX8_canHold_4 (by decide) (by omega) (by omega) (fun h4 => ?_) (fun h4 => ?_)
    · exfalso; omega
    · refine V_lload_0 hx dX8_canHold_7 ?_
      refine V_iload_3 hx dX8_canHold_8 ?_
      refine V_s2Q hx el ed (c_X8_byteOf (by omega)) myX8_byteOf mlX8_15 dX8_canHold_9 (by decide) (by omega) rfl (by first | exact Nat.le_of_ble_eq_true rfl | simp [vI, vL, vR_cat, Value.category]) (fun r9 => ?_)
      refine V_istore_4 hx (by first | exact nc_I | exact nc_R | exact nc_n) dX8_canHold_12 ?_
      refine V_iload_4 hx dX8_canHold_14 ?_
      refine V_bipush hx dX8_canHold_16 (by decide) ?_
      refine V_icmp_lt (tgt := 28) hx dX8_canHold_18 (by decide) (by omega) (by omega) (fun h18 => ?_) (fun h18 => ?_)
      · refine V_iconst hx dX8_canHold_28 ?_
        refine V_zreturn hx dX8_canHold_29 (by first | omega | exact cif01 _) (by omega) (by omega) ?_
        exact ⟨by rw [vB_f (fun q => by have := q i hi0 hi1; omega)], rfl, rfl⟩
      · refine V_iload_4 hx dX8_canHold_21 ?_
        refine V_bipush hx dX8_canHold_23 (by decide) ?_
        refine V_icmp_le (tgt := 30) hx dX8_canHold_25 (by decide) (by omega) (by omega) (fun h25 => ?_) (fun h25 => ?_)
        · refine V_iinc_3 hx (by first | exact nc_I | exact nc_R | exact nc_n) dX8_canHold_30 ?_
          refine V_goto (tgt := 2) hx dX8_canHold_33 (by decide) ?_
          refine V_drop_4 ?_
          refine ih () (fun k k0 k1 => ?_)
          by_cases hk : k = i
          · subst hk; omega
          · exact hok k k0 (by omega)
        · refine V_iconst hx dX8_canHold_28 ?_
          refine V_zreturn hx dX8_canHold_29 (by first | omega | exact cif01 _) (by omega) (by omega) ?_
          exact ⟨by rw [vB_f (fun q => by have := q i hi0 hi1; omega)], rfl, rfl⟩

set_option maxRecDepth 8000 in
theorem c_X8_hasRoomFor {l : Launch} {d : Dd} {z : Nat} {N : Int} {I : Mm} {n : Int} (hN : 67 ≤ N) (hF : Fx I) (hn : -2147483648 ≤ n ∧ n ≤ 2147483647) (hl : 0 ≤ I 4 1 ∧ I 4 1 ≤ 40) : Cn l d z yX8_hasRoomFor cX8_hasRoomFor 2 (some .boolean) 0 0 0 0 [vR z 4, vI n] N I (pv (vB (n ≤ 40 - I 4 1)) N I) := by
  refine Cn.ofA [(vR z 4, false), (vI n, false)] [some (vR z 4), some (vI n)] RX8 (by decide) rfl ⟨cR z 4, rfl, trivial⟩ (Nat.le_of_ble_eq_true rfl) rfl (fun x ed el hx hini => ?_)
  refine V_iload_1 hx dX8_hasRoomFor_0 ?_
  refine V_bipush hx dX8_hasRoomFor_1 (by decide) ?_
  refine V_aload_0 hx dX8_hasRoomFor_3 ?_
  refine V_getIx 1 hx hF flX8_19 dX8_hasRoomFor_4 rfl rfl (k4 hN) (fun r4 => ?_)
  refine V_isub hx dX8_hasRoomFor_7 ?_
  refine V_icmp_gt (tgt := 15) hx dX8_hasRoomFor_8 (by decide) (by omega) (by omega) (fun h8 => ?_) (fun h8 => ?_)
  · refine V_iconst hx dX8_hasRoomFor_15 ?_
    refine V_zreturn hx dX8_hasRoomFor_16 (by first | omega | exact cif01 _) (by omega) (by omega) ?_
    first | exact ⟨by rw [vB_t (by omega)], rfl, rfl⟩ | exact ⟨by rw [vB_f (by omega)], rfl, rfl⟩
  · refine V_iconst hx dX8_hasRoomFor_11 ?_
    refine V_goto (tgt := 16) hx dX8_hasRoomFor_12 (by decide) ?_
    refine V_zreturn hx dX8_hasRoomFor_16 (by first | omega | exact cif01 _) (by omega) (by omega) ?_
    first | exact ⟨by rw [vB_t (by omega)], rfl, rfl⟩ | exact ⟨by rw [vB_f (by omega)], rfl, rfl⟩

set_option maxRecDepth 8000 in
theorem c_X8_clear {l : Launch} {d : Dd} {z : Nat} {N : Int} {I : Mm} (hN : 67 ≤ N) (hF : Fx I) : Cn l d z yX8_clear cX8_clear 1 none 0 0 0 0 [vR z 4] N I (pN (fun N' I' => N' = N ∧ I' = up I 4 1 0 ∧ Fx I')) := by
  refine Cn.ofA [(vR z 4, false)] [some (vR z 4)] RX8 (by decide) rfl ⟨cR z 4, trivial⟩ (Nat.le_of_ble_eq_true rfl) rfl (fun x ed el hx hini => ?_)
  refine V_aload_0 hx dX8_clear_0 ?_
  refine V_iconst hx dX8_clear_1 ?_
  refine V_putIx 1 hx hF flX8_19 dX8_clear_2 rfl rfl (fun r h => by cases h; rfl) (k4 hN) rfl (by omega) (Or.inl (by decide)) (fun hF => ?_)
  refine V_return hx dX8_clear_5 (by omega) (by omega) ?_
  exact ⟨rfl, rfl, rfl, hF⟩

set_option maxRecDepth 8000 in
theorem c_X8_append {l : Launch} {d : Dd} {z : Nat} {N : Int} {I : Mm} {w n : Int} (hN : 67 ≤ N) (hF : Fx I) (hl : 0 ≤ I 4 1 ∧ I 4 1 + n ≤ 40) (hn : 1 ≤ n ∧ n ≤ 8) (hok : okB w n) : Cn l d z yX8_append cX8_append 5 (some .int) 1 22 0 0 [vR z 4, vL w, vI n] N I (pI (fun r N' I' => r = I 4 1 + n ∧ I' = gAppN I w n n.toNat ∧ N' = N ∧ Fx I')) := by
  refine Cn.ofA [(vR z 4, false), (vL w, true), (vI n, false)] [some (vR z 4), some (vL w), none, some (vI n), none] RX8 (by decide) rfl ⟨cR z 4, rfl, rfl, trivial⟩ (Nat.le_of_ble_eq_true rfl) rfl (fun x ed el hx hini => ?_)
  refine V_iload_3 hx dX8_append_0 ?_
  refine V_iconst hx dX8_append_1 ?_
  refine V_isub hx dX8_append_2 ?_
  refine V_istore_4 hx (by first | exact nc_I | exact nc_R | exact nc_n) dX8_append_3 ?_
  rw [show (n - 1 : Int) = n - 1 - 0 by omega]
  refine loop_inv (α := Mm) 0 n (by omega) (fun i M => M = gAppN I w n i.toNat ∧ Fx M ∧ M 4 1 = I 4 1 + i) (fun i M => V x z _ N M 0 0 5 [some (vR z 4), some (vL w), none, some (vI n), some (vI (n - 1 - i))] []) ?_ ?_ _ ⟨rfl, hF, by omega⟩
  · rintro M ⟨eM, hF, hM⟩
    refine V_iload_4 hx dX8_append_5 ?_
    refine V_if_lt (tgt := 51) hx dX8_append_7 (by decide) (by omega) (fun h7 => ?_) (fun h7 => ?_)
    · refine V_aload_0 hx dX8_append_51 ?_
      refine V_getIx 1 hx hF flX8_19 dX8_append_52 rfl rfl (k4 hN) (fun r52 => ?_)
      refine V_ireturn hx dX8_append_55 (by omega) (by omega) ?_
      exact ⟨_, rfl, hM, eM, rfl, hF⟩
    · exfalso; omega
  · rintro i M hi0 hi1 ⟨eM, hF, hM⟩ ih
    have hoi := hok (n - 1 - i) (by omega) (by omega)
    refine V_iload_4 hx dX8_append_5 ?_
    refine V_if_lt (tgt := 51) hx dX8_append_7 (by decide) (by omega) (fun h7 => ?_) (fun h7 => ?_)
    · exfalso; omega
    · refine V_aload_0 hx dX8_append_10 ?_
      refine V_getIx 1 hx hF flX8_19 dX8_append_11 rfl rfl (k4 hN) (fun r11 => ?_)
      refine V_bipush hx dX8_append_14 (by decide) ?_
      refine V_icmp_ge (tgt := 51) hx dX8_append_16 (by decide) (by omega) (by omega) (fun h16 => ?_) (fun h16 => ?_)
      · exfalso; omega
      · refine V_aload_0 hx dX8_append_19 ?_
        refine V_getRe hx flX8_9 dX8_append_20 rfl (k4 hN) (hF.1 4 0 5 rfl) ?_
        refine V_aload_0 hx dX8_append_23 ?_
        refine V_getIx 1 hx hF flX8_19 dX8_append_24 rfl rfl (k4 hN) (fun r24 => ?_)
        refine V_lload_1 hx dX8_append_27 ?_
        refine V_iload_4 hx dX8_append_28 ?_
        refine V_s2Q hx el ed (c_X8_byteOf (by omega)) myX8_byteOf mlX8_15 dX8_append_30 (by decide) (by omega) rfl (by first | exact Nat.le_of_ble_eq_true rfl | simp [vI, vL, vR_cat, Value.category]) (fun r30 => ?_)
        refine V_i2b hx (bt w (n - 1 - i)) dX8_append_33 (by rw [oI_i2b]; congr 1; exact Int.bmod_eq_of_le (by omega) (by omega)) ?_
        refine V_bastorex hx hF dX8_append_34 (k5 hN) (by decide) (by omega) (fx_none rfl _) (by omega) (fun hF => ?_)
        refine V_aload_0 hx dX8_append_35 ?_
        refine V_dupR hx dX8_append_36 ?_
        refine V_getIx 1 hx hF flX8_19 dX8_append_37 rfl rfl (k4 hN) (fun r37 => ?_)
        (try simp only [up_s, up_c, up_row, up_k, ne_eq, Int.reduceEq, not_false_eq_true] at r37 ⊢)
        refine V_iconst hx dX8_append_40 ?_
        refine V_iadd hx dX8_append_41 ?_
        refine V_putIx 1 hx hF flX8_19 dX8_append_42 rfl rfl (fun r h => by cases h; rfl) (k4 hN) rfl (by omega) (Or.inl (by decide)) (fun hF => ?_)
        refine V_iinc_4 hx (by first | exact nc_I | exact nc_R | exact nc_n) dX8_append_45 ?_
        refine V_goto (tgt := 5) hx dX8_append_48 (by decide) ?_
        rw [show n - 1 - i + -1 = n - 1 - (i + 1) by omega]
        refine ih _ ⟨?_, hF, by rw [up_s]; omega⟩
        unfold gAppN
        rw [fld_s _ _ hi0, hM, eM]
        rfl

set_option maxRecDepth 8000 in
theorem c_X8_signAt {l : Launch} {d : Dd} {z : Nat} {N : Int} {I : Mm} {a : Int} (hN : 67 ≤ N) (hF : Fx I) (hT : TpC I) (ha : 0 ≤ a ∧ a ≤ 2147483647) : Cn l d z yX8_signAt cX8_signAt 2 (some .int) 0 0 0 0 [vR z 4, vI a] N I (pq (sg0 (I 5) (I 4 1) a) N I) := by
  refine Cn.ofA [(vR z 4, false), (vI a, false)] [some (vR z 4), some (vI a)] RX8 (by decide) rfl ⟨cR z 4, rfl, trivial⟩ (Nat.le_of_ble_eq_true rfl) rfl (fun x ed el hx hini => ?_)
  have hl := hT.1
  refine V_iload_1 hx dX8_signAt_0 ?_
  refine V_if_lt (tgt := 27) hx dX8_signAt_1 (by decide) (by omega) (fun h1 => ?_) (fun h1 => ?_)
  · refine V_iconst hx dX8_signAt_27 ?_
    refine V_ireturn hx dX8_signAt_28 (by omega) (by omega) ?_
    exact ⟨by unfold sg0; first | (exfalso; omega) | rw [cif_t (by omega)] | rw [cif_f (by omega)], rfl, rfl, by have := (sg0_b hT (a := a) (by omega)).1; omega⟩
  · refine V_iload_1 hx dX8_signAt_4 ?_
    refine V_aload_0 hx dX8_signAt_5 ?_
    refine V_getIx 1 hx hF flX8_19 dX8_signAt_6 rfl rfl (k4 hN) (fun r6 => ?_)
    refine V_icmp_ge (tgt := 27) hx dX8_signAt_9 (by decide) (by omega) (by omega) (fun h9 => ?_) (fun h9 => ?_)
    · refine V_iconst hx dX8_signAt_27 ?_
      refine V_ireturn hx dX8_signAt_28 (by omega) (by omega) ?_
      exact ⟨by unfold sg0; first | (exfalso; omega) | rw [cif_t (by omega)] | rw [cif_f (by omega)], rfl, rfl, by have := (sg0_b hT (a := a) (by omega)).1; omega⟩
    · refine V_iload_1 hx dX8_signAt_12 ?_
      refine V_bipush hx dX8_signAt_13 (by decide) ?_
      refine V_icmp_ge (tgt := 27) hx dX8_signAt_15 (by decide) (by omega) (by omega) (fun h15 => ?_) (fun h15 => ?_)
      · refine V_iconst hx dX8_signAt_27 ?_
        refine V_ireturn hx dX8_signAt_28 (by omega) (by omega) ?_
        exact ⟨by unfold sg0; first | (exfalso; omega) | rw [cif_t (by omega)] | rw [cif_f (by omega)], rfl, rfl, by have := (sg0_b hT (a := a) (by omega)).1; omega⟩
      · refine V_aload_0 hx dX8_signAt_18 ?_
        refine V_getRe hx flX8_9 dX8_signAt_19 rfl (k4 hN) (hF.1 4 0 5 rfl) ?_
        refine V_iload_1 hx dX8_signAt_22 ?_
        refine V_baloadx hx hF dX8_signAt_23 (k5 hN) (by decide) (by omega) (fun r23 => ?_)
        refine V_goto (tgt := 28) hx dX8_signAt_24 (by decide) ?_
        refine V_ireturn hx dX8_signAt_28 (by omega) (by omega) ?_
        exact ⟨by unfold sg0; first | (exfalso; omega) | rw [cif_t (by omega)] | rw [cif_f (by omega)], rfl, rfl, by have := (sg0_b hT (a := a) (by omega)).1; omega⟩

set_option maxRecDepth 8000 in
theorem c_X8_goTo {l : Launch} {d : Dd} {z : Nat} {N : Int} {I : Mm} {p : Int} (hN : 67 ≤ N) (hF : Fx I) (hT : TpC I) (hp : 0 ≤ p ∧ p ≤ I 4 1) : Cn l d z yX8_goTo cX8_goTo 2 none 1 21 0 0 [vR z 4, vI p] N I (pN (fun N' I' => N' = N ∧ I' = up I 4 2 (skf (I 5) (I 4 1) p) ∧ Fx I')) := by
  refine Cn.ofA [(vR z 4, false), (vI p, false)] [some (vR z 4), some (vI p)] RX8 (by decide) rfl ⟨cR z 4, rfl, trivial⟩ (Nat.le_of_ble_eq_true rfl) rfl (fun x ed el hx hini => ?_)
  have hl0 := hT.1
  refine V_aload_0 hx dX8_goTo_0 ?_
  refine V_iload_1 hx dX8_goTo_1 ?_
  refine V_putIx 2 hx hF flX8_33 dX8_goTo_2 rfl rfl (fun r h => by cases h; rfl) (k4 hN) rfl (by omega) (Or.inl (by decide)) (fun hF => ?_)
  refine loop_inv (α := Unit) p (I 4 1) hp.2 (fun i _ => Fx (up I 4 2 i) ∧ ∀ q : Int, p ≤ q → q < i → I 5 q = 32) (fun i _ => V x z _ N (up I 4 2 i) 0 0 5 [some (vR z 4), some (vI p)] []) ?_ ?_ () ⟨hF, fun q a b => by omega⟩
  · rintro _ ⟨hF, hb⟩
    have hl := hT.1
    have hT1 : TpC (up I 4 2 (I 4 1)) := by
      refine ⟨by rw [up_k (by decide)]; exact hT.1, fun q a b => ?_⟩
      rw [up_k (by decide)] at b
      rw [up_c (by decide)]
      exact hT.2 q a b
    refine V_aload_0 hx dX8_goTo_5 ?_
    refine V_getIx 2 hx hF flX8_33 dX8_goTo_6 rfl rfl (k4 hN) (fun r6 => ?_)
    (try simp only [up_s, up_c, up_row, up_k, ne_eq, Int.reduceEq, not_false_eq_true] at r6 ⊢)
    refine V_aload_0 hx dX8_goTo_9 ?_
    refine V_getIx 1 hx hF flX8_19 dX8_goTo_10 rfl rfl (k4 hN) (fun r10 => ?_)
    (try simp only [up_s, up_c, up_row, up_k, ne_eq, Int.reduceEq, not_false_eq_true] at r10 ⊢)
    refine V_icmp_ge (tgt := 42) hx dX8_goTo_13 (by decide) (by omega) (by omega) (fun h13 => ?_) (fun h13 => ?_)
    · refine V_return hx dX8_goTo_42 (by omega) (by omega) ?_
      have hsk := skR_eq (t := I 5) (n := I 4 1) (a := p) (b := I 4 1) ⟨by omega, by omega, hb, by omega⟩
      exact ⟨rfl, rfl, by rw [← hsk], hF⟩
    · exfalso; omega
  · rintro i _ hi0 hi1 ⟨hF, hb⟩ ih
    have hl := hT.1
    have hT1 : TpC (up I 4 2 i) := by
      refine ⟨by rw [up_k (by decide)]; exact hT.1, fun q a b => ?_⟩
      rw [up_k (by decide)] at b
      rw [up_c (by decide)]
      exact hT.2 q a b
    refine V_aload_0 hx dX8_goTo_5 ?_
    refine V_getIx 2 hx hF flX8_33 dX8_goTo_6 rfl rfl (k4 hN) (fun r6 => ?_)
    (try simp only [up_s, up_c, up_row, up_k, ne_eq, Int.reduceEq, not_false_eq_true] at r6 ⊢)
    refine V_aload_0 hx dX8_goTo_9 ?_
    refine V_getIx 1 hx hF flX8_19 dX8_goTo_10 rfl rfl (k4 hN) (fun r10 => ?_)
    (try simp only [up_s, up_c, up_row, up_k, ne_eq, Int.reduceEq, not_false_eq_true] at r10 ⊢)
    refine V_icmp_ge (tgt := 42) hx dX8_goTo_13 (by decide) (by omega) (by omega) (fun h13 => ?_) (fun h13 => ?_)
    · refine V_return hx dX8_goTo_42 (by omega) (by omega) ?_
      have hsk := skR_eq (t := I 5) (n := I 4 1) (a := p) (b := i) ⟨by omega, by omega, hb, by (right; have hs := (sg0_b hT (a := i) (by omega)).2.1 (by omega); omega)⟩
      exact ⟨rfl, rfl, by rw [← hsk], hF⟩
    · refine V_aload_0 hx dX8_goTo_16 ?_
      refine V_aload_0 hx dX8_goTo_17 ?_
      refine V_getIx 2 hx hF flX8_33 dX8_goTo_18 rfl rfl (k4 hN) (fun r18 => ?_)
      (try simp only [up_s, up_c, up_row, up_k, ne_eq, Int.reduceEq, not_false_eq_true] at r18 ⊢)
      refine V_v1Q hx el ed (c_X8_signAt hN hF hT1 (by omega)) myX8_signAt mlX8_44 dX8_goTo_21 ⟨_, rfl, rfl⟩ (k4 hN) (by decide) (by omega) rfl (by first | exact Nat.le_of_ble_eq_true rfl | simp [vI, vL, vR_cat, Value.category]) (fun r21 => ?_)
      (try simp only [up_s, up_c, up_row, up_k, ne_eq, Int.reduceEq, not_false_eq_true] at r21 ⊢)
      have hs := (sg0_b hT (a := i) (by omega)).2.1 (by omega)
      refine V_bipush hx dX8_goTo_24 (by decide) ?_
      refine V_icmp_ne (tgt := 42) hx dX8_goTo_26 (by decide) (by omega) (by omega) (fun h26 => ?_) (fun h26 => ?_)
      · refine V_return hx dX8_goTo_42 (by omega) (by omega) ?_
        have hsk := skR_eq (t := I 5) (n := I 4 1) (a := p) (b := i) ⟨by omega, by omega, hb, by (right; have hs := (sg0_b hT (a := i) (by omega)).2.1 (by omega); omega)⟩
        exact ⟨rfl, rfl, by rw [← hsk], hF⟩
      · refine V_aload_0 hx dX8_goTo_29 ?_
        refine V_dupR hx dX8_goTo_30 ?_
        refine V_getIx 2 hx hF flX8_33 dX8_goTo_31 rfl rfl (k4 hN) (fun r31 => ?_)
        (try simp only [up_s, up_c, up_row, up_k, ne_eq, Int.reduceEq, not_false_eq_true] at r31 ⊢)
        refine V_iconst hx dX8_goTo_34 ?_
        refine V_iadd hx dX8_goTo_35 ?_
        refine V_putIx 2 hx hF flX8_33 dX8_goTo_36 rfl rfl (fun r h => by cases h; rfl) (k4 hN) rfl (by omega) (Or.inl (by decide)) (fun hF => ?_)
        refine V_goto (tgt := 5) hx dX8_goTo_39 (by decide) ?_
        rw [up_uu] at hF ⊢
        exact ih () ⟨hF, fun q a b => by by_cases hq : q = i; (subst hq; omega); (exact hb q a (by omega))⟩

