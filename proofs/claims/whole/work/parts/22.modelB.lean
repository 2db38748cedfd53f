set_option maxRecDepth 8000 in
theorem c_X11_rankOf {l : Launch} {d : Dd} {z : Nat} {N : Int} {I : Mm} {w q : Int} (hN : 67 ≤ N) (hF : Fx I) (hw : 0 ≤ w ∧ w ≤ 999) (hq : 0 ≤ q ∧ q ≤ 1) : Cn l d z yX11_rankOf cX11_rankOf 6 (some .long) 1 22 0 0 [vR z 49, vI w, vI q] N I (pk (rk I w q) N I) := by
  refine Cn.ofA [(vR z 49, false), (vI w, false), (vI q, false)] [some (vR z 49), some (vI w), some (vI q), none, none, none] RX11 (by decide) rfl ⟨cR z 49, rfl, rfl, trivial⟩ (Nat.le_of_ble_eq_true rfl) rfl (fun x ed el hx hini => ?_)
  refine V_lconst (v := 0) hx dX11_rankOf_0 (by decide) ?_
  refine V_lstore_3 hx (by first | exact nc_I | exact nc_R | exact nc_n) dX11_rankOf_1 ?_
  refine V_iconst hx dX11_rankOf_2 ?_
  refine V_istore_5 hx (by first | exact nc_I | exact nc_R | exact nc_n) dX11_rankOf_3 ?_
  refine loop_fld (α := Int) (fun acc i => acc + I 57 (6 * q + i) * I 55 (13 * w + i)) 0 6 (by omega) (fun i acc => V x z _ N I 0 0 5 [some (vR z 49), some (vI w), some (vI q), some (vL acc), none, some (vI i)] []) ?_ ?_
  · refine V_iload_5 hx dX11_rankOf_5 ?_
    refine V_bipush hx dX11_rankOf_7 (by decide) ?_
    refine V_icmp_ge (tgt := 43) hx dX11_rankOf_9 (by decide) (by omega) (by omega) (fun h9 => ?_) (fun h9 => ?_)
    · refine V_lload_3 hx dX11_rankOf_43 ?_
      refine V_lreturn hx dX11_rankOf_44 (by omega) (by omega) ?_
      exact ⟨rfl, rfl, rfl, by have := rk_b hF w q; omega⟩
    · exfalso; omega
  · intro i hi0 hi1 ih
    refine V_iload_5 hx dX11_rankOf_5 ?_
    refine V_bipush hx dX11_rankOf_7 (by decide) ?_
    refine V_icmp_ge (tgt := 43) hx dX11_rankOf_9 (by decide) (by omega) (by omega) (fun h9 => ?_) (fun h9 => ?_)
    · exfalso; omega
    · refine V_lload_3 hx dX11_rankOf_12 ?_
      refine V_aload_0 hx dX11_rankOf_13 ?_
      refine V_getRe hx flX11_31 dX11_rankOf_14 rfl (k49 hN) (hF.1 49 14 57 rfl) ?_
      refine V_bipush hx dX11_rankOf_17 (by decide) ?_
      refine V_iload_2 hx dX11_rankOf_19 ?_
      refine V_imul hx dX11_rankOf_20 ?_
      refine V_iload_5 hx dX11_rankOf_21 ?_
      refine V_iadd hx dX11_rankOf_23 ?_
      refine V_ialoadx hx hF dX11_rankOf_24 (k57 hN) (by decide) (by omega) (fun r24 => ?_)
      refine V_i2l hx dX11_rankOf_25 (by omega) ?_
      refine V_aload_0 hx dX11_rankOf_26 ?_
      refine V_iload_1 hx dX11_rankOf_27 ?_
      refine V_iload_5 hx dX11_rankOf_28 ?_
      refine V_v2Q hx el ed (c_X11_of hN hF (by omega)) myX11_of mlX11_99 dX11_rankOf_30 ⟨_, rfl, rfl⟩ (k49 hN) (by decide) (by omega) rfl (by first | exact Nat.le_of_ble_eq_true rfl | simp [vI, vL, vR_cat, Value.category]) (fun r30 => ?_)
      refine V_i2l hx dX11_rankOf_33 (by omega) ?_
      refine V_lmul hx dX11_rankOf_34 ?_
      refine V_ladd hx dX11_rankOf_35 ?_
      refine V_lstore_3 hx (by first | exact nc_I | exact nc_R | exact nc_n) dX11_rankOf_36 ?_
      refine V_iinc_5 hx (by first | exact nc_I | exact nc_R | exact nc_n) dX11_rankOf_37 ?_
      refine V_goto (tgt := 5) hx dX11_rankOf_40 (by decide) ?_
      first | exact ih | (rw [cif_t (by first | omega | simp_all)] at ih; exact ih) | (rw [cif_f (by first | omega | simp_all)] at ih; exact ih)

set_option maxRecDepth 8000 in
theorem c_X11_waiting {l : Launch} {d : Dd} {z : Nat} {N : Int} {I : Mm} (hN : 67 ≤ N) (hF : Fx I) (hm : 0 ≤ I 49 6 ∧ I 49 6 ≤ 1000) : Cn l d z yX11_waiting cX11_waiting 3 (some .int) 1 22 0 0 [vR z 49] N I (pq (cntW (fun w => I 55 (13 * w + 9) = 0) (I 49 6).toNat) N I) := by
  refine Cn.ofA [(vR z 49, false)] [some (vR z 49), none, none] RX11 (by decide) rfl ⟨cR z 49, trivial⟩ (Nat.le_of_ble_eq_true rfl) rfl (fun x ed el hx hini => ?_)
  have rm := hm
  refine V_iconst hx dX11_waiting_0 ?_
  refine V_istore_1 hx (by first | exact nc_I | exact nc_R | exact nc_n) dX11_waiting_1 ?_
  refine V_iconst hx dX11_waiting_2 ?_
  refine V_istore_2 hx (by first | exact nc_I | exact nc_R | exact nc_n) dX11_waiting_3 ?_
  refine loop_fld (α := Int) (fun acc i => acc + cif (I 55 (13 * i + 9) = 0) 1 0) 0 (I 49 6) hm.1 (fun i acc => V x z _ N I 0 0 4 [some (vR z 49), some (vI acc), some (vI i)] []) ?_ ?_
  · refine V_iload_2 hx dX11_waiting_4 ?_
    refine V_aload_0 hx dX11_waiting_5 ?_
    refine V_getIx 6 hx hF flX11_96 dX11_waiting_6 rfl rfl (k49 hN) (fun r6 => ?_)
    refine V_icmp_ge (tgt := 36) hx dX11_waiting_9 (by decide) (by omega) (by omega) (fun h9 => ?_) (fun h9 => ?_)
    · refine V_iload_1 hx dX11_waiting_36 ?_
      refine V_ireturn hx dX11_waiting_37 (by omega) (by omega) ?_
      exact ⟨rfl, rfl, rfl, by have := cntW_b (fun w => I 55 (13 * w + 9) = 0) (I 49 6).toNat; omega⟩
    · exfalso; omega
  · intro i hi0 hi1 ih
    generalize fld _ _ _ = acc at ih ⊢
    refine V_iload_2 hx dX11_waiting_4 ?_
    refine V_aload_0 hx dX11_waiting_5 ?_
    refine V_getIx 6 hx hF flX11_96 dX11_waiting_6 rfl rfl (k49 hN) (fun r6 => ?_)
    refine V_icmp_ge (tgt := 36) hx dX11_waiting_9 (by decide) (by omega) (by omega) (fun h9 => ?_) (fun h9 => ?_)
    · exfalso; omega
    · refine V_iload_1 hx dX11_waiting_12 ?_
      refine V_aload_0 hx dX11_waiting_13 ?_
      refine V_iload_2 hx dX11_waiting_14 ?_
      refine V_bipush hx dX11_waiting_15 (by decide) ?_
      refine V_v2Q hx el ed (c_X11_of hN hF (by omega)) myX11_of mlX11_99 dX11_waiting_17 ⟨_, rfl, rfl⟩ (k49 hN) (by decide) (by omega) rfl (by first | exact Nat.le_of_ble_eq_true rfl | simp [vI, vL, vR_cat, Value.category]) (fun r17 => ?_)
      refine V_if_ne (tgt := 27) hx dX11_waiting_20 (by decide) (by omega) (fun h20 => ?_) (fun h20 => ?_)
      · refine V_iconst hx dX11_waiting_27 ?_
        refine V_iadd hx dX11_waiting_28 ?_
        refine V_istore_1 hx (by first | exact nc_I | exact nc_R | exact nc_n) dX11_waiting_29 ?_
        refine V_iinc_2 hx (by first | exact nc_I | exact nc_R | exact nc_n) dX11_waiting_30 ?_
        refine V_goto (tgt := 4) hx dX11_waiting_33 (by decide) ?_
        first | exact ih | (rw [cif_t (by first | omega | simp_all)] at ih; exact ih) | (rw [cif_f (by first | omega | simp_all)] at ih; exact ih)
      · refine V_iconst hx dX11_waiting_23 ?_
        refine V_goto (tgt := 28) hx dX11_waiting_24 (by decide) ?_
        refine V_iadd hx dX11_waiting_28 ?_
        refine V_istore_1 hx (by first | exact nc_I | exact nc_R | exact nc_n) dX11_waiting_29 ?_
        refine V_iinc_2 hx (by first | exact nc_I | exact nc_R | exact nc_n) dX11_waiting_30 ?_
        refine V_goto (tgt := 4) hx dX11_waiting_33 (by decide) ?_
        first | exact ih | (rw [cif_t (by first | omega | simp_all)] at ih; exact ih) | (rw [cif_f (by first | omega | simp_all)] at ih; exact ih)

set_option maxRecDepth 8000 in
theorem c_X11_howMany {l : Launch} {d : Dd} {z : Nat} {N : Int} {I : Mm} {h : Int} (hN : 67 ≤ N) (hF : Fx I) (hm : 0 ≤ I 49 6 ∧ I 49 6 ≤ 1000) (hh : -2147483648 ≤ h ∧ h ≤ 2147483647) : Cn l d z yX11_howMany cX11_howMany 4 (some .int) 1 22 0 0 [vR z 49, vI h] N I (pq (cntW (fun w => I 55 (13 * w + 9) = h) (I 49 6).toNat) N I) := by
  refine Cn.ofA [(vR z 49, false), (vI h, false)] [some (vR z 49), some (vI h), none, none] RX11 (by decide) rfl ⟨cR z 49, rfl, trivial⟩ (Nat.le_of_ble_eq_true rfl) rfl (fun x ed el hx hini => ?_)
  have rm := hm
  refine V_iconst hx dX11_howMany_0 ?_
  refine V_istore_2 hx (by first | exact nc_I | exact nc_R | exact nc_n) dX11_howMany_1 ?_
  refine V_iconst hx dX11_howMany_2 ?_
  refine V_istore_3 hx (by first | exact nc_I | exact nc_R | exact nc_n) dX11_howMany_3 ?_
  refine loop_fld (α := Int) (fun acc i => acc + cif (I 55 (13 * i + 9) = h) 1 0) 0 (I 49 6) hm.1 (fun i acc => V x z _ N I 0 0 4 [some (vR z 49), some (vI h), some (vI acc), some (vI i)] []) ?_ ?_
  · refine V_iload_3 hx dX11_howMany_4 ?_
    refine V_aload_0 hx dX11_howMany_5 ?_
    refine V_getIx 6 hx hF flX11_96 dX11_howMany_6 rfl rfl (k49 hN) (fun r6 => ?_)
    refine V_icmp_ge (tgt := 37) hx dX11_howMany_9 (by decide) (by omega) (by omega) (fun h9 => ?_) (fun h9 => ?_)
    · refine V_iload_2 hx dX11_howMany_37 ?_
      refine V_ireturn hx dX11_howMany_38 (by omega) (by omega) ?_
      exact ⟨rfl, rfl, rfl, by have := cntW_b (fun w => I 55 (13 * w + 9) = h) (I 49 6).toNat; omega⟩
    · exfalso; omega
  · intro i hi0 hi1 ih
    generalize fld _ _ _ = acc at ih ⊢
    refine V_iload_3 hx dX11_howMany_4 ?_
    refine V_aload_0 hx dX11_howMany_5 ?_
    refine V_getIx 6 hx hF flX11_96 dX11_howMany_6 rfl rfl (k49 hN) (fun r6 => ?_)
    refine V_icmp_ge (tgt := 37) hx dX11_howMany_9 (by decide) (by omega) (by omega) (fun h9 => ?_) (fun h9 => ?_)
    · exfalso; omega
    · refine V_iload_2 hx dX11_howMany_12 ?_
      refine V_aload_0 hx dX11_howMany_13 ?_
      refine V_iload_3 hx dX11_howMany_14 ?_
      refine V_bipush hx dX11_howMany_15 (by decide) ?_
      refine V_v2Q hx el ed (c_X11_of hN hF (by omega)) myX11_of mlX11_99 dX11_howMany_17 ⟨_, rfl, rfl⟩ (k49 hN) (by decide) (by omega) rfl (by first | exact Nat.le_of_ble_eq_true rfl | simp [vI, vL, vR_cat, Value.category]) (fun r17 => ?_)
      refine V_iload_1 hx dX11_howMany_20 ?_
      refine V_icmp_ne (tgt := 28) hx dX11_howMany_21 (by decide) (by omega) (by omega) (fun h21 => ?_) (fun h21 => ?_)
      · refine V_iconst hx dX11_howMany_28 ?_
        refine V_iadd hx dX11_howMany_29 ?_
        refine V_istore_2 hx (by first | exact nc_I | exact nc_R | exact nc_n) dX11_howMany_30 ?_
        refine V_iinc_3 hx (by first | exact nc_I | exact nc_R | exact nc_n) dX11_howMany_31 ?_
        refine V_goto (tgt := 4) hx dX11_howMany_34 (by decide) ?_
        first | exact ih | (rw [cif_t (by first | omega | simp_all)] at ih; exact ih) | (rw [cif_f (by first | omega | simp_all)] at ih; exact ih)
      · refine V_iconst hx dX11_howMany_24 ?_
        refine V_goto (tgt := 29) hx dX11_howMany_25 (by decide) ?_
        refine V_iadd hx dX11_howMany_29 ?_
        refine V_istore_2 hx (by first | exact nc_I | exact nc_R | exact nc_n) dX11_howMany_30 ?_
        refine V_iinc_3 hx (by first | exact nc_I | exact nc_R | exact nc_n) dX11_howMany_31 ?_
        refine V_goto (tgt := 4) hx dX11_howMany_34 (by decide) ?_
        first | exact ih | (rw [cif_t (by first | omega | simp_all)] at ih; exact ih) | (rw [cif_f (by first | omega | simp_all)] at ih; exact ih)

set_option maxRecDepth 8000 in
theorem c_X11_isOpen {l : Launch} {d : Dd} {z : Nat} {N : Int} {I : Mm} {w : Int} (hN : 67 ≤ N) (hF : Fx I) (hw : 0 ≤ w ∧ w ≤ 999) : Cn l d z yX11_isOpen cX11_isOpen 2 (some .boolean) 1 22 0 0 [vR z 49, vI w] N I (pv (vB (opn I w)) N I) := by
  refine Cn.ofA [(vR z 49, false), (vI w, false)] [some (vR z 49), some (vI w)] RX11 (by decide) rfl ⟨cR z 49, rfl, trivial⟩ (Nat.le_of_ble_eq_true rfl) rfl (fun x ed el hx hini => ?_)
  refine V_aload_0 hx dX11_isOpen_0 ?_
  refine V_iload_1 hx dX11_isOpen_1 ?_
  refine V_bipush hx dX11_isOpen_2 (by decide) ?_
  refine V_v2Q hx el ed (c_X11_of hN hF (by omega)) myX11_of mlX11_99 dX11_isOpen_4 ⟨_, rfl, rfl⟩ (k49 hN) (by decide) (by omega) rfl (by first | exact Nat.le_of_ble_eq_true rfl | simp [vI, vL, vR_cat, Value.category]) (fun r4 => ?_)
  refine V_if_ne (tgt := 28) hx dX11_isOpen_7 (by decide) (by omega) (fun h7 => ?_) (fun h7 => ?_)
  · refine V_iconst hx dX11_isOpen_28 ?_
    refine V_zreturn hx dX11_isOpen_29 (by first | omega | exact cif01 _) (by omega) (by omega) ?_
    first | exact ⟨by rw [vB_t ⟨by omega, by omega⟩], rfl, rfl⟩ | exact ⟨by rw [vB_f (by unfold opn; omega)], rfl, rfl⟩
  · refine V_aload_0 hx dX11_isOpen_10 ?_
    refine V_iload_1 hx dX11_isOpen_11 ?_
    refine V_bipush hx dX11_isOpen_12 (by decide) ?_
    refine V_v2Q hx el ed (c_X11_of hN hF (by omega)) myX11_of mlX11_99 dX11_isOpen_14 ⟨_, rfl, rfl⟩ (k49 hN) (by decide) (by omega) rfl (by first | exact Nat.le_of_ble_eq_true rfl | simp [vI, vL, vR_cat, Value.category]) (fun r14 => ?_)
    refine V_aload_0 hx dX11_isOpen_17 ?_
    refine V_getIx 7 hx hF flX11_111 dX11_isOpen_18 rfl rfl (k49 hN) (fun r18 => ?_)
    refine V_icmp_gt (tgt := 28) hx dX11_isOpen_21 (by decide) (by omega) (by omega) (fun h21 => ?_) (fun h21 => ?_)
    · refine V_iconst hx dX11_isOpen_28 ?_
      refine V_zreturn hx dX11_isOpen_29 (by first | omega | exact cif01 _) (by omega) (by omega) ?_
      first | exact ⟨by rw [vB_t ⟨by omega, by omega⟩], rfl, rfl⟩ | exact ⟨by rw [vB_f (by unfold opn; omega)], rfl, rfl⟩
    · refine V_iconst hx dX11_isOpen_24 ?_
      refine V_goto (tgt := 29) hx dX11_isOpen_25 (by decide) ?_
      refine V_zreturn hx dX11_isOpen_29 (by first | omega | exact cif01 _) (by omega) (by omega) ?_
      first | exact ⟨by rw [vB_t ⟨by omega, by omega⟩], rfl, rfl⟩ | exact ⟨by rw [vB_f (by unfold opn; omega)], rfl, rfl⟩

set_option maxRecDepth 8000 in
theorem c_X11_opens {l : Launch} {d : Dd} {z : Nat} {N : Int} {I : Mm} (hN : 67 ≤ N) (hF : Fx I) (hm : 0 ≤ I 49 6 ∧ I 49 6 ≤ 1000) : Cn l d z yX11_opens cX11_opens 3 (some .int) 2 43 0 0 [vR z 49] N I (pq (cntW (opn I) (I 49 6).toNat) N I) := by
  refine Cn.ofA [(vR z 49, false)] [some (vR z 49), none, none] RX11 (by decide) rfl ⟨cR z 49, trivial⟩ (Nat.le_of_ble_eq_true rfl) rfl (fun x ed el hx hini => ?_)
  refine V_iconst hx dX11_opens_0 ?_
  refine V_istore_1 hx (by first | exact nc_I | exact nc_R | exact nc_n) dX11_opens_1 ?_
  refine V_iconst hx dX11_opens_2 ?_
  refine V_istore_2 hx (by first | exact nc_I | exact nc_R | exact nc_n) dX11_opens_3 ?_
  refine loop_fld (α := Int) (fun acc i => acc + cif (opn I i) 1 0) 0 (I 49 6) hm.1 (fun i acc => V x z _ N I 0 0 4 [some (vR z 49), some (vI acc), some (vI i)] []) ?_ ?_
  · refine V_iload_2 hx dX11_opens_4 ?_
    refine V_aload_0 hx dX11_opens_5 ?_
    refine V_getIx 6 hx hF flX11_96 dX11_opens_6 rfl rfl (k49 hN) (fun r6 => ?_)
    refine V_icmp_ge (tgt := 34) hx dX11_opens_9 (by decide) (by omega) (by omega) (fun h9 => ?_) (fun h9 => ?_)
    · refine V_iload_1 hx dX11_opens_34 ?_
      refine V_ireturn hx dX11_opens_35 (by omega) (by omega) ?_
      exact ⟨rfl, rfl, rfl, by have := cntW_b (opn I) (I 49 6).toNat; omega⟩
    · exfalso; omega
  · intro i hi0 hi1 ih
    generalize fld _ _ _ = acc at ih ⊢
    refine V_iload_2 hx dX11_opens_4 ?_
    refine V_aload_0 hx dX11_opens_5 ?_
    refine V_getIx 6 hx hF flX11_96 dX11_opens_6 rfl rfl (k49 hN) (fun r6 => ?_)
    refine V_icmp_ge (tgt := 34) hx dX11_opens_9 (by decide) (by omega) (by omega) (fun h9 => ?_) (fun h9 => ?_)
    · exfalso; omega
    · refine V_iload_1 hx dX11_opens_12 ?_
      refine V_aload_0 hx dX11_opens_13 ?_
      refine V_iload_2 hx dX11_opens_14 ?_
      refine V_v1P hx el ed (c_X11_isOpen hN hF (by omega)) myX11_isOpen mlX11_199 dX11_opens_15 ⟨_, rfl, rfl⟩ (k49 hN) (by decide) (by omega) rfl (by first | exact Nat.le_of_ble_eq_true rfl | simp [vI, vL, vR_cat, Value.category]) ?_
      refine V_ifB_eq (tgt := 25) hx dX11_opens_18 (by decide) (fun h18 => ?_) (fun h18 => ?_)
      · refine V_iconst hx dX11_opens_25 ?_
        refine V_iadd hx dX11_opens_26 ?_
        refine V_istore_1 hx (by first | exact nc_I | exact nc_R | exact nc_n) dX11_opens_27 ?_
        refine V_iinc_2 hx (by first | exact nc_I | exact nc_R | exact nc_n) dX11_opens_28 ?_
        refine V_goto (tgt := 4) hx dX11_opens_31 (by decide) ?_
        first | exact ih | (rw [cif_t (by first | omega | simp_all)] at ih; exact ih) | (rw [cif_f (by first | omega | simp_all)] at ih; exact ih)
      · refine V_iconst hx dX11_opens_21 ?_
        refine V_goto (tgt := 26) hx dX11_opens_22 (by decide) ?_
        refine V_iadd hx dX11_opens_26 ?_
        refine V_istore_1 hx (by first | exact nc_I | exact nc_R | exact nc_n) dX11_opens_27 ?_
        refine V_iinc_2 hx (by first | exact nc_I | exact nc_R | exact nc_n) dX11_opens_28 ?_
        refine V_goto (tgt := 4) hx dX11_opens_31 (by decide) ?_
        first | exact ih | (rw [cif_t (by first | omega | simp_all)] at ih; exact ih) | (rw [cif_f (by first | omega | simp_all)] at ih; exact ih)

set_option maxRecDepth 8000 in
theorem c_X11_hasOpen {l : Launch} {d : Dd} {z : Nat} {N : Int} {I : Mm} {h : Int} (hN : 67 ≤ N) (hF : Fx I) (hm : 0 ≤ I 49 6 ∧ I 49 6 ≤ 1000) (hh : -2147483648 ≤ h ∧ h ≤ 2147483647) : Cn l d z yX11_hasOpen cX11_hasOpen 4 (some .boolean) 2 43 0 0 [vR z 49, vI h] N I (pv (vB (hasO I h)) N I) := by
  refine Cn.ofA [(vR z 49, false), (vI h, false)] [some (vR z 49), some (vI h), none, none] RX11 (by decide) rfl ⟨cR z 49, rfl, trivial⟩ (Nat.le_of_ble_eq_true rfl) rfl (fun x ed el hx hini => ?_)
  refine V_iconst hx dX11_hasOpen_0 ?_
  refine V_istore_2 hx (by first | exact nc_I | exact nc_R | exact nc_n) dX11_hasOpen_1 ?_
  refine V_iconst hx dX11_hasOpen_2 ?_
  refine V_istore_3 hx (by first | exact nc_I | exact nc_R | exact nc_n) dX11_hasOpen_3 ?_
  refine loop_inv (α := Int) 0 (I 49 6) hm.1 (fun i s => (s = 0 ∧ ¬ anyW (fun w => opn I w ∧ I 55 (13 * w + 8) = h) i) ∨ (s = 1 ∧ anyW (fun w => opn I w ∧ I 55 (13 * w + 8) = h) i)) (fun i s => V x z _ N I 0 0 4 [some (vR z 49), some (vI h), some (vI s), some (vI i)] []) ?_ ?_ 0 (Or.inl ⟨rfl, anyW_0⟩)
  · intro s hJ
    have hs : s = 0 ∨ s = 1 := by rcases hJ with h | h <;> omega
    refine V_iload_3 hx dX11_hasOpen_4 ?_
    refine V_aload_0 hx dX11_hasOpen_5 ?_
    refine V_getIx 6 hx hF flX11_96 dX11_hasOpen_6 rfl rfl (k49 hN) (fun r6 => ?_)
    refine V_icmp_ge (tgt := 47) hx dX11_hasOpen_9 (by decide) (by omega) (by omega) (fun h9 => ?_) (fun h9 => ?_)
    · refine V_iload_2 hx dX11_hasOpen_47 ?_
      refine V_zreturn hx dX11_hasOpen_48 (by first | omega | exact cif01 _) (by omega) (by omega) ?_
      rcases hJ with ⟨rfl, hJ⟩ | ⟨rfl, hJ⟩
      · exact ⟨by rw [vB_f (show ¬ hasO I h from hJ)], rfl, rfl⟩
      · exact ⟨by rw [vB_t (show hasO I h from hJ)], rfl, rfl⟩
    · exfalso; omega
  · intro i s hi0 hi1 hJ ih
    have hs : s = 0 ∨ s = 1 := by rcases hJ with h | h <;> omega
    refine V_iload_3 hx dX11_hasOpen_4 ?_
    refine V_aload_0 hx dX11_hasOpen_5 ?_
    refine V_getIx 6 hx hF flX11_96 dX11_hasOpen_6 rfl rfl (k49 hN) (fun r6 => ?_)
    refine V_icmp_ge (tgt := 47) hx dX11_hasOpen_9 (by decide) (by omega) (by omega) (fun h9 => ?_) (fun h9 => ?_)
    · refine V_iload_2 hx dX11_hasOpen_47 ?_
      refine V_zreturn hx dX11_hasOpen_48 (by first | omega | exact cif01 _) (by omega) (by omega) ?_
      rcases hJ with ⟨h, hJ⟩ | ⟨h, hJ⟩
      · exfalso; omega
      · subst h; exact ⟨by rw [vB_t (show hasO I h from anyW_mono hJ (by omega))], rfl, rfl⟩
    · refine V_iload_2 hx dX11_hasOpen_12 ?_
      refine V_if_ne (tgt := 47) hx dX11_hasOpen_13 (by decide) (by omega) (fun h13 => ?_) (fun h13 => ?_)
      · refine V_iload_2 hx dX11_hasOpen_47 ?_
        refine V_zreturn hx dX11_hasOpen_48 (by first | omega | exact cif01 _) (by omega) (by omega) ?_
        rcases hJ with ⟨h, hJ⟩ | ⟨h, hJ⟩
        · exfalso; omega
        · subst h; exact ⟨by rw [vB_t (show hasO I h from anyW_mono hJ (by omega))], rfl, rfl⟩
      · refine V_aload_0 hx dX11_hasOpen_16 ?_
        refine V_iload_3 hx dX11_hasOpen_17 ?_
        refine V_v1P hx el ed (c_X11_isOpen hN hF (by omega)) myX11_isOpen mlX11_199 dX11_hasOpen_18 ⟨_, rfl, rfl⟩ (k49 hN) (by decide) (by omega) rfl (by first | exact Nat.le_of_ble_eq_true rfl | simp [vI, vL, vR_cat, Value.category]) ?_
        refine V_ifB_eq (tgt := 39) hx dX11_hasOpen_21 (by decide) (fun h21 => ?_) (fun h21 => ?_)
        · refine V_iconst hx dX11_hasOpen_39 ?_
          refine V_istore_2 hx (by first | exact nc_I | exact nc_R | exact nc_n) dX11_hasOpen_40 ?_
          refine V_iinc_3 hx (by first | exact nc_I | exact nc_R | exact nc_n) dX11_hasOpen_41 ?_
          refine V_goto (tgt := 4) hx dX11_hasOpen_44 (by decide) ?_
          first | exact ih 1 (Or.inr ⟨rfl, (anyW_s hi0).mpr (Or.inr (by first | assumption | exact ⟨by assumption, by omega⟩ | exact ⟨by omega, by omega⟩))⟩) | exact ih 0 (Or.inl ⟨rfl, fun q => by rcases (anyW_s hi0).mp q with q | q; exact hJ.elim (fun t => t.2 q) (fun t => by omega); first | omega | exact absurd q.1 (by assumption)⟩)
        · refine V_aload_0 hx dX11_hasOpen_24 ?_
          refine V_iload_3 hx dX11_hasOpen_25 ?_
          refine V_bipush hx dX11_hasOpen_26 (by decide) ?_
          refine V_v2Q hx el ed (c_X11_of hN hF (by omega)) myX11_of mlX11_99 dX11_hasOpen_28 ⟨_, rfl, rfl⟩ (k49 hN) (by decide) (by omega) rfl (by first | exact Nat.le_of_ble_eq_true rfl | simp [vI, vL, vR_cat, Value.category]) (fun r28 => ?_)
          refine V_iload_1 hx dX11_hasOpen_31 ?_
          refine V_icmp_ne (tgt := 39) hx dX11_hasOpen_32 (by decide) (by omega) (by omega) (fun h32 => ?_) (fun h32 => ?_)
          · refine V_iconst hx dX11_hasOpen_39 ?_
            refine V_istore_2 hx (by first | exact nc_I | exact nc_R | exact nc_n) dX11_hasOpen_40 ?_
            refine V_iinc_3 hx (by first | exact nc_I | exact nc_R | exact nc_n) dX11_hasOpen_41 ?_
            refine V_goto (tgt := 4) hx dX11_hasOpen_44 (by decide) ?_
            first | exact ih 1 (Or.inr ⟨rfl, (anyW_s hi0).mpr (Or.inr (by first | assumption | exact ⟨by assumption, by omega⟩ | exact ⟨by omega, by omega⟩))⟩) | exact ih 0 (Or.inl ⟨rfl, fun q => by rcases (anyW_s hi0).mp q with q | q; exact hJ.elim (fun t => t.2 q) (fun t => by omega); first | omega | exact absurd q.1 (by assumption)⟩)
          · refine V_iconst hx dX11_hasOpen_35 ?_
            refine V_goto (tgt := 40) hx dX11_hasOpen_36 (by decide) ?_
            refine V_istore_2 hx (by first | exact nc_I | exact nc_R | exact nc_n) dX11_hasOpen_40 ?_
            refine V_iinc_3 hx (by first | exact nc_I | exact nc_R | exact nc_n) dX11_hasOpen_41 ?_
            refine V_goto (tgt := 4) hx dX11_hasOpen_44 (by decide) ?_
            first | exact ih 1 (Or.inr ⟨rfl, (anyW_s hi0).mpr (Or.inr (by first | assumption | exact ⟨by assumption, by omega⟩ | exact ⟨by omega, by omega⟩))⟩) | exact ih 0 (Or.inl ⟨rfl, fun q => by rcases (anyW_s hi0).mp q with q | q; exact hJ.elim (fun t => t.2 q) (fun t => by omega); first | omega | exact absurd q.1 (by assumption)⟩)

set_option maxRecDepth 8000 in
theorem c_X11_greatest {l : Launch} {d : Dd} {z : Nat} {N : Int} {I : Mm} (hN : 67 ≤ N) (hF : Fx I) (hm : 0 ≤ I 49 6 ∧ I 49 6 ≤ 1000) : Cn l d z yX11_greatest cX11_greatest 3 (some .int) 2 47 0 0 [vR z 49] N I (pq (grt I) N I) := by
  refine Cn.ofA [(vR z 49, false)] [some (vR z 49), none, none] RX11 (by decide) rfl ⟨cR z 49, trivial⟩ (Nat.le_of_ble_eq_true rfl) rfl (fun x ed el hx hini => ?_)
  refine V_bipush hx dX11_greatest_0 (by decide) ?_
  refine V_istore_1 hx (by first | exact nc_I | exact nc_R | exact nc_n) dX11_greatest_2 ?_
  refine V_iconst hx dX11_greatest_3 ?_
  refine V_istore_2 hx (by first | exact nc_I | exact nc_R | exact nc_n) dX11_greatest_4 ?_
  refine loop_fld (α := Int) (fun acc i => cif ((I 55 (13 * i + 9) = 0) ∧ (acc = -4 ∨ rk I acc 0 ≤ rk I i 0)) i acc) (-4) (I 49 6) hm.1 (fun i acc => V x z _ N I 0 0 5 [some (vR z 49), some (vI acc), some (vI i)] []) ?_ ?_
  · refine V_iload_2 hx dX11_greatest_5 ?_
    refine V_aload_0 hx dX11_greatest_6 ?_
    refine V_getIx 6 hx hF flX11_96 dX11_greatest_7 rfl rfl (k49 hN) (fun r7 => ?_)
    refine V_icmp_ge (tgt := 57) hx dX11_greatest_10 (by decide) (by omega) (by omega) (fun h10 => ?_) (fun h10 => ?_)
    · refine V_iload_1 hx dX11_greatest_57 ?_
      refine V_ireturn hx dX11_greatest_58 (by omega) (by omega) ?_
      exact ⟨rfl, rfl, rfl, bst_i hm.2⟩
    · exfalso; omega
  · intro i hi0 hi1 ih
    have hb := bst_r (fun w => I 55 (13 * w + 9) = 0) (fun w b => rk I b 0 ≤ rk I w 0) i.toNat
    unfold bst at hb
    generalize fld _ _ _ = acc at ih hb ⊢
    have hb2 : acc = -4 ∨ (0 ≤ acc ∧ acc < i) := by rcases hb with h | ⟨h1, h2, h3⟩ <;> omega
    clear hb
    refine V_iload_2 hx dX11_greatest_5 ?_
    refine V_aload_0 hx dX11_greatest_6 ?_
    refine V_getIx 6 hx hF flX11_96 dX11_greatest_7 rfl rfl (k49 hN) (fun r7 => ?_)
    refine V_icmp_ge (tgt := 57) hx dX11_greatest_10 (by decide) (by omega) (by omega) (fun h10 => ?_) (fun h10 => ?_)
    · exfalso; omega
    · refine V_aload_0 hx dX11_greatest_13 ?_
      refine V_iload_2 hx dX11_greatest_14 ?_
      refine V_bipush hx dX11_greatest_15 (by decide) ?_
      refine V_v2Q hx el ed (c_X11_of hN hF (by omega)) myX11_of mlX11_99 dX11_greatest_17 ⟨_, rfl, rfl⟩ (k49 hN) (by decide) (by omega) rfl (by first | exact Nat.le_of_ble_eq_true rfl | simp [vI, vL, vR_cat, Value.category]) (fun r17 => ?_)
      refine V_if_ne (tgt := 49) hx dX11_greatest_20 (by decide) (by omega) (fun h20 => ?_) (fun h20 => ?_)
      · refine V_iload_1 hx dX11_greatest_49 ?_
        refine V_istore_1 hx (by first | exact nc_I | exact nc_R | exact nc_n) dX11_greatest_50 ?_
        refine V_iinc_2 hx (by first | exact nc_I | exact nc_R | exact nc_n) dX11_greatest_51 ?_
        refine V_goto (tgt := 5) hx dX11_greatest_54 (by decide) ?_
        first | (rw [cif_t (by first | omega | exact ⟨by first | assumption | omega | exact ⟨by first | assumption | omega, by first | assumption | omega⟩, by first | (left; assumption) | (right; assumption)⟩)] at ih; exact ih) | (rw [cif_f (by first | omega | (rintro ⟨q1, q2⟩; first | omega | exact absurd q1 (by assumption) | exact absurd q1.1 (by assumption) | exact absurd q1.2 (by assumption) | (rcases q2 with q2 | q2 <;> omega)))] at ih; exact ih)
      · refine V_iload_1 hx dX11_greatest_23 ?_
        refine V_bipush hx dX11_greatest_24 (by decide) ?_
        refine V_icmp_eq (tgt := 45) hx dX11_greatest_26 (by decide) (by omega) (by omega) (fun h26 => ?_) (fun h26 => ?_)
        · refine V_iload_2 hx dX11_greatest_45 ?_
          refine V_goto (tgt := 50) hx dX11_greatest_46 (by decide) ?_
          refine V_istore_1 hx (by first | exact nc_I | exact nc_R | exact nc_n) dX11_greatest_50 ?_
          refine V_iinc_2 hx (by first | exact nc_I | exact nc_R | exact nc_n) dX11_greatest_51 ?_
          refine V_goto (tgt := 5) hx dX11_greatest_54 (by decide) ?_
          first | (rw [cif_t (by first | omega | exact ⟨by first | assumption | omega | exact ⟨by first | assumption | omega, by first | assumption | omega⟩, by first | (left; assumption) | (right; assumption)⟩)] at ih; exact ih) | (rw [cif_f (by first | omega | (rintro ⟨q1, q2⟩; first | omega | exact absurd q1 (by assumption) | exact absurd q1.1 (by assumption) | exact absurd q1.2 (by assumption) | (rcases q2 with q2 | q2 <;> omega)))] at ih; exact ih)
        · refine V_aload_0 hx dX11_greatest_29 ?_
          refine V_iload_2 hx dX11_greatest_30 ?_
          refine V_iconst hx dX11_greatest_31 ?_
          refine V_v2K hx el ed (c_X11_rankOf hN hF (by omega) (by omega)) myX11_rankOf mlX11_134 dX11_greatest_32 ⟨_, rfl, rfl⟩ (k49 hN) (by decide) (by omega) rfl (by first | exact Nat.le_of_ble_eq_true rfl | simp [vI, vL, vR_cat, Value.category]) (fun r32 => ?_)
          refine V_aload_0 hx dX11_greatest_35 ?_
          refine V_iload_1 hx dX11_greatest_36 ?_
          refine V_iconst hx dX11_greatest_37 ?_
          refine V_v2K hx el ed (c_X11_rankOf hN hF (by omega) (by omega)) myX11_rankOf mlX11_134 dX11_greatest_38 ⟨_, rfl, rfl⟩ (k49 hN) (by decide) (by omega) rfl (by first | exact Nat.le_of_ble_eq_true rfl | simp [vI, vL, vR_cat, Value.category]) (fun r38 => ?_)
          refine V_lif_lt (tgt := 49) hx dX11_greatest_41 dX11_greatest_42 (by decide) (by omega) (by omega) (fun h42 => ?_) (fun h42 => ?_)
          · refine V_iload_1 hx dX11_greatest_49 ?_
            refine V_istore_1 hx (by first | exact nc_I | exact nc_R | exact nc_n) dX11_greatest_50 ?_
            refine V_iinc_2 hx (by first | exact nc_I | exact nc_R | exact nc_n) dX11_greatest_51 ?_
            refine V_goto (tgt := 5) hx dX11_greatest_54 (by decide) ?_
            first | (rw [cif_t (by first | omega | exact ⟨by first | assumption | omega | exact ⟨by first | assumption | omega, by first | assumption | omega⟩, by first | (left; assumption) | (right; assumption)⟩)] at ih; exact ih) | (rw [cif_f (by first | omega | (rintro ⟨q1, q2⟩; first | omega | exact absurd q1 (by assumption) | exact absurd q1.1 (by assumption) | exact absurd q1.2 (by assumption) | (rcases q2 with q2 | q2 <;> omega)))] at ih; exact ih)
          · refine V_iload_2 hx dX11_greatest_45 ?_
            refine V_goto (tgt := 50) hx dX11_greatest_46 (by decide) ?_
            refine V_istore_1 hx (by first | exact nc_I | exact nc_R | exact nc_n) dX11_greatest_50 ?_
            refine V_iinc_2 hx (by first | exact nc_I | exact nc_R | exact nc_n) dX11_greatest_51 ?_
            refine V_goto (tgt := 5) hx dX11_greatest_54 (by decide) ?_
            first | (rw [cif_t (by first | omega | exact ⟨by first | assumption | omega | exact ⟨by first | assumption | omega, by first | assumption | omega⟩, by first | (left; assumption) | (right; assumption)⟩)] at ih; exact ih) | (rw [cif_f (by first | omega | (rintro ⟨q1, q2⟩; first | omega | exact absurd q1 (by assumption) | exact absurd q1.1 (by assumption) | exact absurd q1.2 (by assumption) | (rcases q2 with q2 | q2 <;> omega)))] at ih; exact ih)

set_option maxRecDepth 8000 in
theorem c_X11_wordOf {l : Launch} {d : Dd} {z : Nat} {N : Int} {I : Mm} {h : Int} (hN : 67 ≤ N) (hF : Fx I) (hm : 0 ≤ I 49 6 ∧ I 49 6 ≤ 1000) (hh : -2147483648 ≤ h ∧ h ≤ 2147483647) : Cn l d z yX11_wordOf cX11_wordOf 5 (some .int) 2 47 0 0 [vR z 49, vI h] N I (pq (wOf I h) N I) := by
  refine Cn.ofA [(vR z 49, false), (vI h, false)] [some (vR z 49), some (vI h), none, none, none] RX11 (by decide) rfl ⟨cR z 49, rfl, trivial⟩ (Nat.le_of_ble_eq_true rfl) rfl (fun x ed el hx hini => ?_)
  refine V_bipush hx dX11_wordOf_0 (by decide) ?_
  refine V_istore_2 hx (by first | exact nc_I | exact nc_R | exact nc_n) dX11_wordOf_2 ?_
  refine V_iconst hx dX11_wordOf_3 ?_
  refine V_istore_3 hx (by first | exact nc_I | exact nc_R | exact nc_n) dX11_wordOf_4 ?_
  refine loop_fld (α := Int) (fun acc i => cif ((opn I i ∧ I 55 (13 * i + 8) = h) ∧ (acc = -4 ∨ rk I i 0 < rk I acc 0)) i acc) (-4) (I 49 6) hm.1 (fun i acc => V x z _ N I 0 0 5 [some (vR z 49), some (vI h), some (vI acc), some (vI i), none] []) ?_ ?_
  · refine V_iload_3 hx dX11_wordOf_5 ?_
    refine V_aload_0 hx dX11_wordOf_6 ?_
    refine V_getIx 6 hx hF flX11_96 dX11_wordOf_7 rfl rfl (k49 hN) (fun r7 => ?_)
    refine V_icmp_ge (tgt := 78) hx dX11_wordOf_10 (by decide) (by omega) (by omega) (fun h10 => ?_) (fun h10 => ?_)
    · refine V_iload_2 hx dX11_wordOf_78 ?_
      refine V_ireturn hx dX11_wordOf_79 (by omega) (by omega) ?_
      exact ⟨rfl, rfl, rfl, bst_i hm.2⟩
    · exfalso; omega
  · intro i hi0 hi1 ih
    have hb := bst_r (fun w => opn I w ∧ I 55 (13 * w + 8) = h) (fun w b => rk I w 0 < rk I b 0) i.toNat
    unfold bst at hb
    generalize fld _ _ _ = acc at ih hb ⊢
    have hb2 : acc = -4 ∨ (0 ≤ acc ∧ acc < i) := by rcases hb with h | ⟨h1, h2, h3⟩ <;> omega
    clear hb
    refine V_iload_3 hx dX11_wordOf_5 ?_
    refine V_aload_0 hx dX11_wordOf_6 ?_
    refine V_getIx 6 hx hF flX11_96 dX11_wordOf_7 rfl rfl (k49 hN) (fun r7 => ?_)
    refine V_icmp_ge (tgt := 78) hx dX11_wordOf_10 (by decide) (by omega) (by omega) (fun h10 => ?_) (fun h10 => ?_)
    · exfalso; omega
    · refine V_aload_0 hx dX11_wordOf_13 ?_
      refine V_iload_3 hx dX11_wordOf_14 ?_
      refine V_v1P hx el ed (c_X11_isOpen hN hF (by omega)) myX11_isOpen mlX11_199 dX11_wordOf_15 ⟨_, rfl, rfl⟩ (k49 hN) (by decide) (by omega) rfl (by first | exact Nat.le_of_ble_eq_true rfl | simp [vI, vL, vR_cat, Value.category]) ?_
      refine V_ifB_eq (tgt := 36) hx dX11_wordOf_18 (by decide) (fun h18 => ?_) (fun h18 => ?_)
      · refine V_iconst hx dX11_wordOf_36 ?_
        refine V_istore_4 hx (by first | exact nc_I | exact nc_R | exact nc_n) dX11_wordOf_37 ?_
        refine V_iload_4 hx dX11_wordOf_39 ?_
        refine V_if_eq (tgt := 70) hx dX11_wordOf_41 (by decide) (by omega) (fun _ => ?_) (fun h => absurd h (by decide))
        refine V_iload_2 hx dX11_wordOf_70 ?_
        refine V_istore_2 hx (by first | exact nc_I | exact nc_R | exact nc_n) dX11_wordOf_71 ?_
        refine V_iinc_3 hx (by first | exact nc_I | exact nc_R | exact nc_n) dX11_wordOf_72 ?_
        refine V_goto (tgt := 5) hx dX11_wordOf_75 (by decide) ?_
        refine V_drop_4 ?_
        first | (rw [cif_t (by first | omega | exact ⟨by first | assumption | omega | exact ⟨by first | assumption | omega, by first | assumption | omega⟩, by first | (left; assumption) | (right; assumption)⟩)] at ih; exact ih) | (rw [cif_f (by first | omega | (rintro ⟨q1, q2⟩; first | omega | exact absurd q1 (by assumption) | exact absurd q1.1 (by assumption) | exact absurd q1.2 (by assumption) | (rcases q2 with q2 | q2 <;> omega)))] at ih; exact ih)
      · refine V_aload_0 hx dX11_wordOf_21 ?_
        refine V_iload_3 hx dX11_wordOf_22 ?_
        refine V_bipush hx dX11_wordOf_23 (by decide) ?_
        refine V_v2Q hx el ed (c_X11_of hN hF (by omega)) myX11_of mlX11_99 dX11_wordOf_25 ⟨_, rfl, rfl⟩ (k49 hN) (by decide) (by omega) rfl (by first | exact Nat.le_of_ble_eq_true rfl | simp [vI, vL, vR_cat, Value.category]) (fun r25 => ?_)
        refine V_iload_1 hx dX11_wordOf_28 ?_
        refine V_icmp_ne (tgt := 36) hx dX11_wordOf_29 (by decide) (by omega) (by omega) (fun h29 => ?_) (fun h29 => ?_)
        · refine V_iconst hx dX11_wordOf_36 ?_
          refine V_istore_4 hx (by first | exact nc_I | exact nc_R | exact nc_n) dX11_wordOf_37 ?_
          refine V_iload_4 hx dX11_wordOf_39 ?_
          refine V_if_eq (tgt := 70) hx dX11_wordOf_41 (by decide) (by omega) (fun _ => ?_) (fun h => absurd h (by decide))
          refine V_iload_2 hx dX11_wordOf_70 ?_
          refine V_istore_2 hx (by first | exact nc_I | exact nc_R | exact nc_n) dX11_wordOf_71 ?_
          refine V_iinc_3 hx (by first | exact nc_I | exact nc_R | exact nc_n) dX11_wordOf_72 ?_
          refine V_goto (tgt := 5) hx dX11_wordOf_75 (by decide) ?_
          refine V_drop_4 ?_
          first | (rw [cif_t (by first | omega | exact ⟨by first | assumption | omega | exact ⟨by first | assumption | omega, by first | assumption | omega⟩, by first | (left; assumption) | (right; assumption)⟩)] at ih; exact ih) | (rw [cif_f (by first | omega | (rintro ⟨q1, q2⟩; first | omega | exact absurd q1 (by assumption) | exact absurd q1.1 (by assumption) | exact absurd q1.2 (by assumption) | (rcases q2 with q2 | q2 <;> omega)))] at ih; exact ih)
        · refine V_iconst hx dX11_wordOf_32 ?_
          refine V_goto (tgt := 37) hx dX11_wordOf_33 (by decide) ?_
          refine V_istore_4 hx (by first | exact nc_I | exact nc_R | exact nc_n) dX11_wordOf_37 ?_
          refine V_iload_4 hx dX11_wordOf_39 ?_
          refine V_if_eq (tgt := 70) hx dX11_wordOf_41 (by decide) (by omega) (fun h => absurd h (by decide)) (fun _ => ?_)
          refine V_iload_2 hx dX11_wordOf_44 ?_
          refine V_bipush hx dX11_wordOf_45 (by decide) ?_
          refine V_icmp_eq (tgt := 66) hx dX11_wordOf_47 (by decide) (by omega) (by omega) (fun h47 => ?_) (fun h47 => ?_)
          · refine V_iload_3 hx dX11_wordOf_66 ?_
            refine V_goto (tgt := 71) hx dX11_wordOf_67 (by decide) ?_
            refine V_istore_2 hx (by first | exact nc_I | exact nc_R | exact nc_n) dX11_wordOf_71 ?_
            refine V_iinc_3 hx (by first | exact nc_I | exact nc_R | exact nc_n) dX11_wordOf_72 ?_
            refine V_goto (tgt := 5) hx dX11_wordOf_75 (by decide) ?_
            refine V_drop_4 ?_
            first | (rw [cif_t (by first | omega | exact ⟨by first | assumption | omega | exact ⟨by first | assumption | omega, by first | assumption | omega⟩, by first | (left; assumption) | (right; assumption)⟩)] at ih; exact ih) | (rw [cif_f (by first | omega | (rintro ⟨q1, q2⟩; first | omega | exact absurd q1 (by assumption) | exact absurd q1.1 (by assumption) | exact absurd q1.2 (by assumption) | (rcases q2 with q2 | q2 <;> omega)))] at ih; exact ih)
          · refine V_aload_0 hx dX11_wordOf_50 ?_
            refine V_iload_3 hx dX11_wordOf_51 ?_
            refine V_iconst hx dX11_wordOf_52 ?_
            refine V_v2K hx el ed (c_X11_rankOf hN hF (by omega) (by omega)) myX11_rankOf mlX11_134 dX11_wordOf_53 ⟨_, rfl, rfl⟩ (k49 hN) (by decide) (by omega) rfl (by first | exact Nat.le_of_ble_eq_true rfl | simp [vI, vL, vR_cat, Value.category]) (fun r53 => ?_)
            refine V_aload_0 hx dX11_wordOf_56 ?_
            refine V_iload_2 hx dX11_wordOf_57 ?_
            refine V_iconst hx dX11_wordOf_58 ?_
            refine V_v2K hx el ed (c_X11_rankOf hN hF (by omega) (by omega)) myX11_rankOf mlX11_134 dX11_wordOf_59 ⟨_, rfl, rfl⟩ (k49 hN) (by decide) (by omega) rfl (by first | exact Nat.le_of_ble_eq_true rfl | simp [vI, vL, vR_cat, Value.category]) (fun r59 => ?_)
            refine V_lif_ge (tgt := 70) hx dX11_wordOf_62 dX11_wordOf_63 (by decide) (by omega) (by omega) (fun h63 => ?_) (fun h63 => ?_)
            · refine V_iload_2 hx dX11_wordOf_70 ?_
              refine V_istore_2 hx (by first | exact nc_I | exact nc_R | exact nc_n) dX11_wordOf_71 ?_
              refine V_iinc_3 hx (by first | exact nc_I | exact nc_R | exact nc_n) dX11_wordOf_72 ?_
              refine V_goto (tgt := 5) hx dX11_wordOf_75 (by decide) ?_
              refine V_drop_4 ?_
              first | (rw [cif_t (by first | omega | exact ⟨by first | assumption | omega | exact ⟨by first | assumption | omega, by first | assumption | omega⟩, by first | (left; assumption) | (right; assumption)⟩)] at ih; exact ih) | (rw [cif_f (by first | omega | (rintro ⟨q1, q2⟩; first | omega | exact absurd q1 (by assumption) | exact absurd q1.1 (by assumption) | exact absurd q1.2 (by assumption) | (rcases q2 with q2 | q2 <;> omega)))] at ih; exact ih)
            · refine V_iload_3 hx dX11_wordOf_66 ?_
              refine V_goto (tgt := 71) hx dX11_wordOf_67 (by decide) ?_
              refine V_istore_2 hx (by first | exact nc_I | exact nc_R | exact nc_n) dX11_wordOf_71 ?_
              refine V_iinc_3 hx (by first | exact nc_I | exact nc_R | exact nc_n) dX11_wordOf_72 ?_
              refine V_goto (tgt := 5) hx dX11_wordOf_75 (by decide) ?_
              refine V_drop_4 ?_
              first | (rw [cif_t (by first | omega | exact ⟨by first | assumption | omega | exact ⟨by first | assumption | omega, by first | assumption | omega⟩, by first | (left; assumption) | (right; assumption)⟩)] at ih; exact ih) | (rw [cif_f (by first | omega | (rintro ⟨q1, q2⟩; first | omega | exact absurd q1 (by assumption) | exact absurd q1.1 (by assumption) | exact absurd q1.2 (by assumption) | (rcases q2 with q2 | q2 <;> omega)))] at ih; exact ih)

set_option maxRecDepth 8000 in
theorem c_X11_markNext {l : Launch} {d : Dd} {z : Nat} {N : Int} {I : Mm} (hN : 67 ≤ N) (hF : Fx I) (hm : 0 ≤ I 49 6 ∧ I 49 6 ≤ 1000) : Cn l d z yX11_markNext cX11_markNext 4 (some .int) 3 66 0 0 [vR z 49] N I (pq (mkN I) N I) := by
  refine Cn.ofA [(vR z 49, false)] [some (vR z 49), none, none, none] RX11 (by decide) rfl ⟨cR z 49, trivial⟩ (Nat.le_of_ble_eq_true rfl) rfl (fun x ed el hx hini => ?_)
  refine V_bipush hx dX11_markNext_0 (by decide) ?_
  refine V_istore_1 hx (by first | exact nc_I | exact nc_R | exact nc_n) dX11_markNext_2 ?_
  refine V_iconst hx dX11_markNext_3 ?_
  refine V_istore_2 hx (by first | exact nc_I | exact nc_R | exact nc_n) dX11_markNext_4 ?_
  refine loop_fld (α := Int) (fun acc i => cif ((I 55 (13 * i + 12) = 1 ∧ hasO I (I 55 (13 * i + 8))) ∧ (acc = -4 ∨ rk I i 1 < rk I acc 1)) i acc) (-4) (I 49 6) hm.1 (fun i acc => V x z _ N I 0 0 5 [some (vR z 49), some (vI acc), some (vI i), none] []) ?_ ?_
  · refine V_iload_2 hx dX11_markNext_5 ?_
    refine V_aload_0 hx dX11_markNext_6 ?_
    refine V_getIx 6 hx hF flX11_96 dX11_markNext_7 rfl rfl (k49 hN) (fun r7 => ?_)
    refine V_icmp_ge (tgt := 82) hx dX11_markNext_10 (by decide) (by omega) (by omega) (fun h10 => ?_) (fun h10 => ?_)
    · refine V_iload_1 hx dX11_markNext_82 ?_
      refine V_ireturn hx dX11_markNext_83 (by omega) (by omega) ?_
      exact ⟨rfl, rfl, rfl, bst_i hm.2⟩
    · exfalso; omega
  · intro i hi0 hi1 ih
    have hb := bst_r (fun w => I 55 (13 * w + 12) = 1 ∧ hasO I (I 55 (13 * w + 8))) (fun w b => rk I w 1 < rk I b 1) i.toNat
    unfold bst at hb
    generalize fld _ _ _ = acc at ih hb ⊢
    have hb2 : acc = -4 ∨ (0 ≤ acc ∧ acc < i) := by rcases hb with h | ⟨h1, h2, h3⟩ <;> omega
    clear hb
    refine V_iload_2 hx dX11_markNext_5 ?_
    refine V_aload_0 hx dX11_markNext_6 ?_
    refine V_getIx 6 hx hF flX11_96 dX11_markNext_7 rfl rfl (k49 hN) (fun r7 => ?_)
    refine V_icmp_ge (tgt := 82) hx dX11_markNext_10 (by decide) (by omega) (by omega) (fun h10 => ?_) (fun h10 => ?_)
    · exfalso; omega
    · refine V_aload_0 hx dX11_markNext_13 ?_
      refine V_iload_2 hx dX11_markNext_14 ?_
      refine V_bipush hx dX11_markNext_15 (by decide) ?_
      refine V_v2Q hx el ed (c_X11_of hN hF (by omega)) myX11_of mlX11_99 dX11_markNext_17 ⟨_, rfl, rfl⟩ (k49 hN) (by decide) (by omega) rfl (by first | exact Nat.le_of_ble_eq_true rfl | simp [vI, vL, vR_cat, Value.category]) (fun r17 => ?_)
      refine V_iconst hx dX11_markNext_20 ?_
      refine V_icmp_ne (tgt := 42) hx dX11_markNext_21 (by decide) (by omega) (by omega) (fun h21 => ?_) (fun h21 => ?_)
      · refine V_iconst hx dX11_markNext_42 ?_
        refine V_istore_3 hx (by first | exact nc_I | exact nc_R | exact nc_n) dX11_markNext_43 ?_
        refine V_iload_3 hx dX11_markNext_44 ?_
        refine V_if_eq (tgt := 74) hx dX11_markNext_45 (by decide) (by omega) (fun _ => ?_) (fun h => absurd h (by decide))
        refine V_iload_1 hx dX11_markNext_74 ?_
        refine V_istore_1 hx (by first | exact nc_I | exact nc_R | exact nc_n) dX11_markNext_75 ?_
        refine V_iinc_2 hx (by first | exact nc_I | exact nc_R | exact nc_n) dX11_markNext_76 ?_
        refine V_goto (tgt := 5) hx dX11_markNext_79 (by decide) ?_
        refine V_drop_3 ?_
        first | (rw [cif_t (by first | omega | exact ⟨by first | assumption | omega | exact ⟨by first | assumption | omega, by first | assumption | omega⟩, by first | (left; assumption) | (right; assumption)⟩)] at ih; exact ih) | (rw [cif_f (by first | omega | (rintro ⟨q1, q2⟩; first | omega | exact absurd q1 (by assumption) | exact absurd q1.1 (by assumption) | exact absurd q1.2 (by assumption) | (rcases q2 with q2 | q2 <;> omega)))] at ih; exact ih)
      · refine V_aload_0 hx dX11_markNext_24 ?_
        refine V_aload_0 hx dX11_markNext_25 ?_
        refine V_iload_2 hx dX11_markNext_26 ?_
        refine V_bipush hx dX11_markNext_27 (by decide) ?_
        refine V_v2Q hx el ed (c_X11_of hN hF (by omega)) myX11_of mlX11_99 dX11_markNext_29 ⟨_, rfl, rfl⟩ (k49 hN) (by decide) (by omega) rfl (by first | exact Nat.le_of_ble_eq_true rfl | simp [vI, vL, vR_cat, Value.category]) (fun r29 => ?_)
        refine V_v1P hx el ed (c_X11_hasOpen hN hF (by omega) (by omega)) myX11_hasOpen mlX11_202 dX11_markNext_32 ⟨_, rfl, rfl⟩ (k49 hN) (by decide) (by omega) rfl (by first | exact Nat.le_of_ble_eq_true rfl | simp [vI, vL, vR_cat, Value.category]) ?_
        refine V_ifB_eq (tgt := 42) hx dX11_markNext_35 (by decide) (fun h35 => ?_) (fun h35 => ?_)
        · refine V_iconst hx dX11_markNext_42 ?_
          refine V_istore_3 hx (by first | exact nc_I | exact nc_R | exact nc_n) dX11_markNext_43 ?_
          refine V_iload_3 hx dX11_markNext_44 ?_
          refine V_if_eq (tgt := 74) hx dX11_markNext_45 (by decide) (by omega) (fun _ => ?_) (fun h => absurd h (by decide))
          refine V_iload_1 hx dX11_markNext_74 ?_
          refine V_istore_1 hx (by first | exact nc_I | exact nc_R | exact nc_n) dX11_markNext_75 ?_
          refine V_iinc_2 hx (by first | exact nc_I | exact nc_R | exact nc_n) dX11_markNext_76 ?_
          refine V_goto (tgt := 5) hx dX11_markNext_79 (by decide) ?_
          refine V_drop_3 ?_
          first | (rw [cif_t (by first | omega | exact ⟨by first | assumption | omega | exact ⟨by first | assumption | omega, by first | assumption | omega⟩, by first | (left; assumption) | (right; assumption)⟩)] at ih; exact ih) | (rw [cif_f (by first | omega | (rintro ⟨q1, q2⟩; first | omega | exact absurd q1 (by assumption) | exact absurd q1.1 (by assumption) | exact absurd q1.2 (by assumption) | (rcases q2 with q2 | q2 <;> omega)))] at ih; exact ih)
        · refine V_iconst hx dX11_markNext_38 ?_
          refine V_goto (tgt := 43) hx dX11_markNext_39 (by decide) ?_
          refine V_istore_3 hx (by first | exact nc_I | exact nc_R | exact nc_n) dX11_markNext_43 ?_
          refine V_iload_3 hx dX11_markNext_44 ?_
          refine V_if_eq (tgt := 74) hx dX11_markNext_45 (by decide) (by omega) (fun h => absurd h (by decide)) (fun _ => ?_)
          refine V_iload_1 hx dX11_markNext_48 ?_
          refine V_bipush hx dX11_markNext_49 (by decide) ?_
          refine V_icmp_eq (tgt := 70) hx dX11_markNext_51 (by decide) (by omega) (by omega) (fun h51 => ?_) (fun h51 => ?_)
          · refine V_iload_2 hx dX11_markNext_70 ?_
            refine V_goto (tgt := 75) hx dX11_markNext_71 (by decide) ?_
            refine V_istore_1 hx (by first | exact nc_I | exact nc_R | exact nc_n) dX11_markNext_75 ?_
            refine V_iinc_2 hx (by first | exact nc_I | exact nc_R | exact nc_n) dX11_markNext_76 ?_
            refine V_goto (tgt := 5) hx dX11_markNext_79 (by decide) ?_
            refine V_drop_3 ?_
            first | (rw [cif_t (by first | omega | exact ⟨by first | assumption | omega | exact ⟨by first | assumption | omega, by first | assumption | omega⟩, by first | (left; assumption) | (right; assumption)⟩)] at ih; exact ih) | (rw [cif_f (by first | omega | (rintro ⟨q1, q2⟩; first | omega | exact absurd q1 (by assumption) | exact absurd q1.1 (by assumption) | exact absurd q1.2 (by assumption) | (rcases q2 with q2 | q2 <;> omega)))] at ih; exact ih)
          · refine V_aload_0 hx dX11_markNext_54 ?_
            refine V_iload_2 hx dX11_markNext_55 ?_
            refine V_iconst hx dX11_markNext_56 ?_
            refine V_v2K hx el ed (c_X11_rankOf hN hF (by omega) (by omega)) myX11_rankOf mlX11_134 dX11_markNext_57 ⟨_, rfl, rfl⟩ (k49 hN) (by decide) (by omega) rfl (by first | exact Nat.le_of_ble_eq_true rfl | simp [vI, vL, vR_cat, Value.category]) (fun r57 => ?_)
            refine V_aload_0 hx dX11_markNext_60 ?_
            refine V_iload_1 hx dX11_markNext_61 ?_
            refine V_iconst hx dX11_markNext_62 ?_
            refine V_v2K hx el ed (c_X11_rankOf hN hF (by omega) (by omega)) myX11_rankOf mlX11_134 dX11_markNext_63 ⟨_, rfl, rfl⟩ (k49 hN) (by decide) (by omega) rfl (by first | exact Nat.le_of_ble_eq_true rfl | simp [vI, vL, vR_cat, Value.category]) (fun r63 => ?_)
            refine V_lif_ge (tgt := 74) hx dX11_markNext_66 dX11_markNext_67 (by decide) (by omega) (by omega) (fun h67 => ?_) (fun h67 => ?_)
            · refine V_iload_1 hx dX11_markNext_74 ?_
              refine V_istore_1 hx (by first | exact nc_I | exact nc_R | exact nc_n) dX11_markNext_75 ?_
              refine V_iinc_2 hx (by first | exact nc_I | exact nc_R | exact nc_n) dX11_markNext_76 ?_
              refine V_goto (tgt := 5) hx dX11_markNext_79 (by decide) ?_
              refine V_drop_3 ?_
              first | (rw [cif_t (by first | omega | exact ⟨by first | assumption | omega | exact ⟨by first | assumption | omega, by first | assumption | omega⟩, by first | (left; assumption) | (right; assumption)⟩)] at ih; exact ih) | (rw [cif_f (by first | omega | (rintro ⟨q1, q2⟩; first | omega | exact absurd q1 (by assumption) | exact absurd q1.1 (by assumption) | exact absurd q1.2 (by assumption) | (rcases q2 with q2 | q2 <;> omega)))] at ih; exact ih)
            · refine V_iload_2 hx dX11_markNext_70 ?_
              refine V_goto (tgt := 75) hx dX11_markNext_71 (by decide) ?_
              refine V_istore_1 hx (by first | exact nc_I | exact nc_R | exact nc_n) dX11_markNext_75 ?_
              refine V_iinc_2 hx (by first | exact nc_I | exact nc_R | exact nc_n) dX11_markNext_76 ?_
              refine V_goto (tgt := 5) hx dX11_markNext_79 (by decide) ?_
              refine V_drop_3 ?_
              first | (rw [cif_t (by first | omega | exact ⟨by first | assumption | omega | exact ⟨by first | assumption | omega, by first | assumption | omega⟩, by first | (left; assumption) | (right; assumption)⟩)] at ih; exact ih) | (rw [cif_f (by first | omega | (rintro ⟨q1, q2⟩; first | omega | exact absurd q1 (by assumption) | exact absurd q1.1 (by assumption) | exact absurd q1.2 (by assumption) | (rcases q2 with q2 | q2 <;> omega)))] at ih; exact ih)

