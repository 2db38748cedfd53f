set_option maxRecDepth 8000 in
theorem c_X11_drops {l : Launch} {d : Dd} {z : Nat} {N : Int} {I : Mm} {w : Int} (hN : 67 ≤ N) (hF : Fx I) (hw : 0 ≤ w ∧ w < I 49 6) (hm : I 49 6 ≤ 1000) : Cn l d z yX11_drops cX11_drops 4 none 1 23 0 0 [vR z 49, vI w] N I (pN (fun N' I' => N' = N ∧ I' = gDrops I w ∧ Fx I')) := by
  refine Cn.ofA [(vR z 49, false), (vI w, false)] [some (vR z 49), some (vI w), none, none] RX11 (by decide) rfl ⟨cR z 49, rfl, trivial⟩ (Nat.le_of_ble_eq_true rfl) rfl (fun x ed el hx hini => ?_)
  refine V_aload_0 hx dX11_drops_0 ?_
  refine V_iload_1 hx dX11_drops_1 ?_
  refine V_bipush hx dX11_drops_2 (by decide) ?_
  refine V_iconst hx dX11_drops_4 ?_
  refine V_v3N hx el ed (c_X11_puts hN hF (by omega) (by omega)) myX11_puts mlX11_114 dX11_drops_5 ⟨_, rfl, rfl⟩ (k49 hN) (by decide) (by omega) rfl (by first | exact Nat.le_of_ble_eq_true rfl | simp [vI, vL, vR_cat, Value.category]) (fun N1 I1 ⟨eN, eI, hF⟩ => ?_)
  subst eN
  have hm1 : I1 49 6 = I 49 6 := by rw [eI]; exact up_c (by decide)
  refine V_iload_1 hx dX11_drops_8 ?_
  refine V_istore_2 hx (by first | exact nc_I | exact nc_R | exact nc_n) dX11_drops_9 ?_
  refine V_aload_0 hx dX11_drops_10 ?_
  refine V_iload_1 hx dX11_drops_11 ?_
  refine V_bipush hx dX11_drops_12 (by decide) ?_
  refine V_v2Q hx el ed (c_X11_of hN hF (by omega)) myX11_of mlX11_99 dX11_drops_14 ⟨_, rfl, rfl⟩ (k49 hN) (by decide) (by omega) rfl (by first | exact Nat.le_of_ble_eq_true rfl | simp [vI, vL, vR_cat, Value.category]) (fun r14 => ?_)
  refine V_if_ne (tgt := 70) hx dX11_drops_17 (by decide) (by omega) (fun h17 => ?_) (fun h17 => ?_)
  · refine V_aload_0 hx dX11_drops_70 ?_
    refine V_iload_2 hx dX11_drops_71 ?_
    refine V_bipush hx dX11_drops_72 (by decide) ?_
    refine V_iconst hx dX11_drops_74 ?_
    refine V_v3N hx el ed (c_X11_puts hN hF (by omega) (by omega)) myX11_puts mlX11_114 dX11_drops_75 ⟨_, rfl, rfl⟩ (k49 hN) (by decide) (by omega) rfl (by first | exact Nat.le_of_ble_eq_true rfl | simp [vI, vL, vR_cat, Value.category]) (fun N2 I2 ⟨eN2, eI2, hF⟩ => ?_)
    subst eN2
    refine V_return hx dX11_drops_78 (by omega) (by omega) ?_
    refine ⟨rfl, rfl, ?_, hF⟩
    rw [eI2]
    unfold gDrops
    rw [← eI]
    have hd : dmk I1 w = w := cif_f (by omega)
    rw [hd]
  · refine V_iconst hx dX11_drops_20 ?_
    refine V_istore_3 hx (by first | exact nc_I | exact nc_R | exact nc_n) dX11_drops_21 ?_
    refine loop_fld (α := Int) (fun acc i => cif (I1 55 (13 * i + 12) = 1 ∧ I1 55 (13 * i + 8) = I1 55 (13 * w + 8)) i acc) w (I1 49 6) (by omega) (fun i acc => V x z _ N1 I1 0 0 22 [some (vR z 49), some (vI w), some (vI acc), some (vI i)] []) ?_ ?_
    · have hb : 0 ≤ fld (fun m k => cif (I1 55 (13 * k + 12) = 1 ∧ I1 55 (13 * k + 8) = I1 55 (13 * w + 8)) k m) w (I1 49 6).toNat ∧ fld (fun m k => cif (I1 55 (13 * k + 12) = 1 ∧ I1 55 (13 * k + 8) = I1 55 (13 * w + 8)) k m) w (I1 49 6).toNat < I1 49 6 := by have := dmk_r (I := I1) (w := w) (by omega); rwa [show dmk I1 w = fld (fun m k => cif (I1 55 (13 * k + 12) = 1 ∧ I1 55 (13 * k + 8) = I1 55 (13 * w + 8)) k m) w (I1 49 6).toNat from cif_t (by omega)] at this
      refine V_iload_3 hx dX11_drops_22 ?_
      refine V_aload_0 hx dX11_drops_23 ?_
      refine V_getIx 6 hx hF flX11_96 dX11_drops_24 rfl rfl (k49 hN) (fun r24 => ?_)
      refine V_icmp_ge (tgt := 70) hx dX11_drops_27 (by decide) (by omega) (by omega) (fun h27 => ?_) (fun h27 => ?_)
      · refine V_aload_0 hx dX11_drops_70 ?_
        refine V_iload_2 hx dX11_drops_71 ?_
        refine V_bipush hx dX11_drops_72 (by decide) ?_
        refine V_iconst hx dX11_drops_74 ?_
        refine V_v3N hx el ed (c_X11_puts hN hF (by omega) (by omega)) myX11_puts mlX11_114 dX11_drops_75 ⟨_, rfl, rfl⟩ (k49 hN) (by decide) (by omega) rfl (by first | exact Nat.le_of_ble_eq_true rfl | simp [vI, vL, vR_cat, Value.category]) (fun N2 I2 ⟨eN2, eI2, hF⟩ => ?_)
        subst eN2
        refine V_return hx dX11_drops_78 (by omega) (by omega) ?_
        refine ⟨rfl, rfl, ?_, hF⟩
        rw [eI2]
        unfold gDrops
        rw [← eI]
        have hd : dmk I1 w = fld (fun m k => cif (I1 55 (13 * k + 12) = 1 ∧ I1 55 (13 * k + 8) = I1 55 (13 * w + 8)) k m) w (I1 49 6).toNat := cif_t (by omega)
        rw [hd]
      · exfalso; omega
    · intro i hi0 hi1 ih
      generalize fld _ _ _ = acc at ih ⊢
      refine V_iload_3 hx dX11_drops_22 ?_
      refine V_aload_0 hx dX11_drops_23 ?_
      refine V_getIx 6 hx hF flX11_96 dX11_drops_24 rfl rfl (k49 hN) (fun r24 => ?_)
      refine V_icmp_ge (tgt := 70) hx dX11_drops_27 (by decide) (by omega) (by omega) (fun h27 => ?_) (fun h27 => ?_)
      · exfalso; omega
      · refine V_aload_0 hx dX11_drops_30 ?_
        refine V_iload_3 hx dX11_drops_31 ?_
        refine V_bipush hx dX11_drops_32 (by decide) ?_
        refine V_v2Q hx el ed (c_X11_of hN hF (by omega)) myX11_of mlX11_99 dX11_drops_34 ⟨_, rfl, rfl⟩ (k49 hN) (by decide) (by omega) rfl (by first | exact Nat.le_of_ble_eq_true rfl | simp [vI, vL, vR_cat, Value.category]) (fun r34 => ?_)
        refine V_iconst hx dX11_drops_37 ?_
        refine V_icmp_ne (tgt := 62) hx dX11_drops_38 (by decide) (by omega) (by omega) (fun h38 => ?_) (fun h38 => ?_)
        · refine V_iload_2 hx dX11_drops_62 ?_
          refine V_istore_2 hx (by first | exact nc_I | exact nc_R | exact nc_n) dX11_drops_63 ?_
          refine V_iinc_3 hx (by first | exact nc_I | exact nc_R | exact nc_n) dX11_drops_64 ?_
          refine V_goto (tgt := 22) hx dX11_drops_67 (by decide) ?_
          first | exact ih | (rw [cif_t (by first | omega | simp_all)] at ih; exact ih) | (rw [cif_f (by first | omega | simp_all)] at ih; exact ih)
        · refine V_aload_0 hx dX11_drops_41 ?_
          refine V_iload_3 hx dX11_drops_42 ?_
          refine V_bipush hx dX11_drops_43 (by decide) ?_
          refine V_v2Q hx el ed (c_X11_of hN hF (by omega)) myX11_of mlX11_99 dX11_drops_45 ⟨_, rfl, rfl⟩ (k49 hN) (by decide) (by omega) rfl (by first | exact Nat.le_of_ble_eq_true rfl | simp [vI, vL, vR_cat, Value.category]) (fun r45 => ?_)
          refine V_aload_0 hx dX11_drops_48 ?_
          refine V_iload_1 hx dX11_drops_49 ?_
          refine V_bipush hx dX11_drops_50 (by decide) ?_
          refine V_v2Q hx el ed (c_X11_of hN hF (by omega)) myX11_of mlX11_99 dX11_drops_52 ⟨_, rfl, rfl⟩ (k49 hN) (by decide) (by omega) rfl (by first | exact Nat.le_of_ble_eq_true rfl | simp [vI, vL, vR_cat, Value.category]) (fun r52 => ?_)
          refine V_icmp_ne (tgt := 62) hx dX11_drops_55 (by decide) (by omega) (by omega) (fun h55 => ?_) (fun h55 => ?_)
          · refine V_iload_2 hx dX11_drops_62 ?_
            refine V_istore_2 hx (by first | exact nc_I | exact nc_R | exact nc_n) dX11_drops_63 ?_
            refine V_iinc_3 hx (by first | exact nc_I | exact nc_R | exact nc_n) dX11_drops_64 ?_
            refine V_goto (tgt := 22) hx dX11_drops_67 (by decide) ?_
            first | exact ih | (rw [cif_t (by first | omega | simp_all)] at ih; exact ih) | (rw [cif_f (by first | omega | simp_all)] at ih; exact ih)
          · refine V_iload_3 hx dX11_drops_58 ?_
            refine V_goto (tgt := 63) hx dX11_drops_59 (by decide) ?_
            refine V_istore_2 hx (by first | exact nc_I | exact nc_R | exact nc_n) dX11_drops_63 ?_
            refine V_iinc_3 hx (by first | exact nc_I | exact nc_R | exact nc_n) dX11_drops_64 ?_
            refine V_goto (tgt := 22) hx dX11_drops_67 (by decide) ?_
            first | exact ih | (rw [cif_t (by first | omega | simp_all)] at ih; exact ih) | (rw [cif_f (by first | omega | simp_all)] at ih; exact ih)

set_option maxRecDepth 8000 in
theorem c_X11_comesNow {l : Launch} {d : Dd} {z : Nat} {N : Int} {I : Mm} {s ln : Int} (hN : 67 ≤ N) (hF : Fx I) (hs : 0 ≤ s ∧ s ≤ 7) (hl : 1 ≤ ln ∧ ln ≤ 99) (hset : SetOK I) (hS : SS I) (hn1 : 0 ≤ I 49 6 ∧ I 49 6 < 1000) (hn2 : 0 ≤ I 49 7 ∧ I 49 7 ≤ 99999) (hn3 : 0 ≤ I 49 8 ∧ I 49 8 ≤ 1584 * I 49 6) : Cn l d z yX11_comesNow cX11_comesNow 5 (some .int) 3 69 0 0 [vR z 49, vI s, vI ln] N I (pI (fun r N' I' => r = I 49 6 ∧ I' = gComes I s ln ∧ N' = N ∧ Fx I')) := by
  refine Cn.ofA [(vR z 49, false), (vI s, false), (vI ln, false)] [some (vR z 49), some (vI s), some (vI ln), none, none] RX11 (by decide) rfl ⟨cR z 49, rfl, rfl, trivial⟩ (Nat.le_of_ble_eq_true rfl) rfl (fun x ed el hx hini => ?_)
  have hs7 := hset.at hs.1 hs.2
  have hss := hS s hs.1 hs.2
  have J262 : Fx (gNew I s ln) → V x z (pI (fun r N' I' => r = I 49 6 ∧ I' = gComes I s ln ∧ N' = N ∧ Fx I')) N (gNew I s ln) 0 0 262 [some (vR z 49), some (vI s), some (vI ln), some (vI (I 49 6)), none] [] := by
    intro hF
    have hsc := gNew_sc I s ln
    have hvv := vict_v I (len := ln) hs hn1.1
    obtain ⟨g6, g7, g8, g9, g11, g12, g13, g20⟩ := hsc
    unfold gComes
    generalize gNew I s ln = J at *
    refine V_aload_0 hx dX11_comesNow_262 ?_
    refine V_v0Q hx el ed (c_X11_waiting hN hF (by omega)) myX11_waiting mlX11_118 dX11_comesNow_263 ⟨_, rfl, rfl⟩ (k49 hN) (by decide) (by omega) rfl (by first | exact Nat.le_of_ble_eq_true rfl | simp [vI, vL, vR_cat, Value.category]) (fun r263 => ?_)
    refine V_aload_0 hx dX11_comesNow_266 ?_
    refine V_getIx 12 hx hF flX11_65 dX11_comesNow_267 rfl rfl (k49 hN) (fun r267 => ?_)
    refine V_icmp_le (tgt := 307) hx dX11_comesNow_270 (by decide) (by omega) (by omega) (fun h270 => ?_) (fun h270 => ?_)
    · refine V_iload_3 hx dX11_comesNow_307 ?_
      refine V_ireturn hx dX11_comesNow_308 (by omega) (by omega) ?_
      first | exact ⟨_, rfl, rfl, by rw [eI2, cif_t (by rw [← g6]; omega)], rfl, hF⟩ | exact ⟨_, rfl, rfl, by rw [cif_f (by rw [← g6]; omega)], rfl, hF⟩
    · refine V_aload_0 hx dX11_comesNow_273 ?_
      refine V_aload_0 hx dX11_comesNow_274 ?_
      refine V_getIx 13 hx hF flX11_122 dX11_comesNow_275 rfl rfl (k49 hN) (fun r275 => ?_)
      refine V_if_ne (tgt := 285) hx dX11_comesNow_278 (by decide) (by omega) (fun h278 => ?_) (fun h278 => ?_)
      · refine V_aload_0 hx dX11_comesNow_285 ?_
        refine V_getIx 13 hx hF flX11_122 dX11_comesNow_286 rfl rfl (k49 hN) (fun r286 => ?_)
        refine V_iconst hx dX11_comesNow_289 ?_
        refine V_icmp_ne (tgt := 300) hx dX11_comesNow_290 (by decide) (by omega) (by omega) (fun h290 => ?_) (fun h290 => ?_)
        · refine V_aload_0 hx dX11_comesNow_300 ?_
          refine V_v0Q hx el ed (c_X11_ofMost hN hF (by omega)) myX11_ofMost mlX11_128 dX11_comesNow_301 ⟨_, rfl, rfl⟩ (k49 hN) (by decide) (by omega) rfl (by first | exact Nat.le_of_ble_eq_true rfl | simp [vI, vL, vR_cat, Value.category]) (fun r301 => ?_)
          refine V_topI (victim J (I 49 6)) (by unfold victim; (repeat (first | rw [cif_t (by omega)] | rw [cif_f (by omega)])); all_goals (exfalso; omega)) ?_
          refine V_v1N hx el ed (c_X11_drops hN hF (by omega) (by omega)) myX11_drops mlX11_131 dX11_comesNow_304 ⟨_, rfl, rfl⟩ (k49 hN) (by decide) (by omega) rfl (by first | exact Nat.le_of_ble_eq_true rfl | simp [vI, vL, vR_cat, Value.category]) (fun N2 I2 ⟨eN2, eI2, hF⟩ => ?_)
          subst eN2
          refine V_iload_3 hx dX11_comesNow_307 ?_
          refine V_ireturn hx dX11_comesNow_308 (by omega) (by omega) ?_
          first | exact ⟨_, rfl, rfl, by rw [eI2, cif_t (by rw [← g6]; omega)], rfl, hF⟩ | exact ⟨_, rfl, rfl, by rw [cif_f (by rw [← g6]; omega)], rfl, hF⟩
        · refine V_aload_0 hx dX11_comesNow_293 ?_
          refine V_v0Q hx el ed (c_X11_greatest hN hF (by omega)) myX11_greatest mlX11_125 dX11_comesNow_294 ⟨_, rfl, rfl⟩ (k49 hN) (by decide) (by omega) rfl (by first | exact Nat.le_of_ble_eq_true rfl | simp [vI, vL, vR_cat, Value.category]) (fun r294 => ?_)
          refine V_goto (tgt := 304) hx dX11_comesNow_297 (by decide) ?_
          refine V_topI (victim J (I 49 6)) (by unfold victim; (repeat (first | rw [cif_t (by omega)] | rw [cif_f (by omega)])); all_goals (exfalso; omega)) ?_
          refine V_v1N hx el ed (c_X11_drops hN hF (by omega) (by omega)) myX11_drops mlX11_131 dX11_comesNow_304 ⟨_, rfl, rfl⟩ (k49 hN) (by decide) (by omega) rfl (by first | exact Nat.le_of_ble_eq_true rfl | simp [vI, vL, vR_cat, Value.category]) (fun N2 I2 ⟨eN2, eI2, hF⟩ => ?_)
          subst eN2
          refine V_iload_3 hx dX11_comesNow_307 ?_
          refine V_ireturn hx dX11_comesNow_308 (by omega) (by omega) ?_
          first | exact ⟨_, rfl, rfl, by rw [eI2, cif_t (by rw [← g6]; omega)], rfl, hF⟩ | exact ⟨_, rfl, rfl, by rw [cif_f (by rw [← g6]; omega)], rfl, hF⟩
      · refine V_iload_3 hx dX11_comesNow_281 ?_
        refine V_goto (tgt := 304) hx dX11_comesNow_282 (by decide) ?_
        refine V_topI (victim J (I 49 6)) (by unfold victim; (repeat (first | rw [cif_t (by omega)] | rw [cif_f (by omega)])); all_goals (exfalso; omega)) ?_
        refine V_v1N hx el ed (c_X11_drops hN hF (by omega) (by omega)) myX11_drops mlX11_131 dX11_comesNow_304 ⟨_, rfl, rfl⟩ (k49 hN) (by decide) (by omega) rfl (by first | exact Nat.le_of_ble_eq_true rfl | simp [vI, vL, vR_cat, Value.category]) (fun N2 I2 ⟨eN2, eI2, hF⟩ => ?_)
        subst eN2
        refine V_iload_3 hx dX11_comesNow_307 ?_
        refine V_ireturn hx dX11_comesNow_308 (by omega) (by omega) ?_
        first | exact ⟨_, rfl, rfl, by rw [eI2, cif_t (by rw [← g6]; omega)], rfl, hF⟩ | exact ⟨_, rfl, rfl, by rw [cif_f (by rw [← g6]; omega)], rfl, hF⟩
  refine V_aload_0 hx dX11_comesNow_0 ?_
  refine V_getIx 6 hx hF flX11_96 dX11_comesNow_1 rfl rfl (k49 hN) (fun r1 => ?_)
  refine V_istore_3 hx (by first | exact nc_I | exact nc_R | exact nc_n) dX11_comesNow_4 ?_
  refine V_aload_0 hx dX11_comesNow_5 ?_
  refine V_dupR hx dX11_comesNow_6 ?_
  refine V_getIx 6 hx hF flX11_96 dX11_comesNow_7 rfl rfl (k49 hN) (fun r7 => ?_)
  refine V_iconst hx dX11_comesNow_10 ?_
  refine V_iadd hx dX11_comesNow_11 ?_
  refine V_putIx 6 hx hF flX11_96 dX11_comesNow_12 rfl rfl (fun r h => by cases h; rfl) (k49 hN) rfl (by omega) (Or.inl (by decide)) (fun hF => ?_)
  refine V_aload_0 hx dX11_comesNow_15 ?_
  refine V_getRe hx flX11_13 dX11_comesNow_16 rfl (k49 hN) (hF.1 49 1 51 rfl) ?_
  refine V_iload_1 hx dX11_comesNow_19 ?_
  refine V_aload_0 hx dX11_comesNow_20 ?_
  refine V_getRe hx flX11_13 dX11_comesNow_21 rfl (k49 hN) (hF.1 49 1 51 rfl) ?_
  refine V_iload_1 hx dX11_comesNow_24 ?_
  refine V_ialoadx hx hF dX11_comesNow_25 (k51 hN) (by decide) (by omega) (fun r25 => ?_)
  (try simp only [up_s, up_c, up_row, up_k, ne_eq, Int.reduceEq, not_false_eq_true] at r25 ⊢)
  refine V_aload_0 hx dX11_comesNow_26 ?_
  refine V_getIx 8 hx hF flX11_108 dX11_comesNow_27 rfl rfl (k49 hN) (fun r27 => ?_)
  (try simp only [up_s, up_c, up_row, up_k, ne_eq, Int.reduceEq, not_false_eq_true] at r27 ⊢)
  refine V_icmp_le (tgt := 42) hx dX11_comesNow_30 (by decide) (by omega) (by omega) (fun h30 => ?_) (fun h30 => ?_)
  · refine V_aload_0 hx dX11_comesNow_42 ?_
    refine V_getIx 8 hx hF flX11_108 dX11_comesNow_43 rfl rfl (k49 hN) (fun r43 => ?_)
    (try simp only [up_s, up_c, up_row, up_k, ne_eq, Int.reduceEq, not_false_eq_true] at r43 ⊢)
    refine V_topI (cif (I 49 8 < I 51 s) (I 51 s) (I 49 8)) (by first | rw [cif_t (by omega)] | rw [cif_f (by omega)]) ?_
    have hcE : 0 ≤ cif (I 49 8 < I 51 s) (I 51 s) (I 49 8) ∧ cif (I 49 8 < I 51 s) (I 51 s) (I 49 8) ≤ 1584000 := by
      by_cases q : I 49 8 < I 51 s
      · rw [cif_t q]; omega
      · rw [cif_f q]; omega
    refine V_bipush hx dX11_comesNow_46 (by decide) ?_
    refine V_iload_2 hx dX11_comesNow_48 ?_
    refine V_imul hx dX11_comesNow_49 ?_
    refine V_aload_0 hx dX11_comesNow_50 ?_
    refine V_iload_1 hx dX11_comesNow_51 ?_
    refine V_iconst hx dX11_comesNow_52 ?_
    refine V_v2Q hx el ed (c_X11_setOf hN hF (by omega)) myX11_setOf mlX11_92 dX11_comesNow_53 ⟨_, rfl, rfl⟩ (k49 hN) (by decide) (by omega) rfl (by first | exact Nat.le_of_ble_eq_true rfl | simp [vI, vL, vR_cat, Value.category]) (fun r53 => ?_)
    (try simp only [up_s, up_c, up_row, up_k, ne_eq, Int.reduceEq, not_false_eq_true] at r53 ⊢)
    refine V_idiv hx dX11_comesNow_56 (by omega) (by omega) ?_
    refine V_iadd hx dX11_comesNow_57 ?_
    have hdv : 0 ≤ 16 * ln / I 50 (7 * s + 1) ∧ 16 * ln / I 50 (7 * s + 1) ≤ 16 * ln := ⟨Int.ediv_nonneg (by omega) (by omega), Int.ediv_le_self _ (by omega)⟩
    refine V_iastorex hx hF dX11_comesNow_58 (k51 hN) (by decide) (by omega) (fx_none rfl _) (by omega) (Or.inl (by decide)) (fun hF => ?_)
    refine V_aload_0 hx dX11_comesNow_59 ?_
    refine V_getRe hx flX11_19 dX11_comesNow_60 rfl (k49 hN) (hF.1 49 3 53 rfl) ?_
    refine V_iload_1 hx dX11_comesNow_63 ?_
    refine V_ialoadx hx hF dX11_comesNow_64 (k53 hN) (by decide) (by omega) (fun r64 => ?_)
    (try simp only [up_s, up_c, up_row, up_k, ne_eq, Int.reduceEq, not_false_eq_true] at r64 ⊢)
    refine V_if_ne (tgt := 75) hx dX11_comesNow_65 (by decide) (by omega) (fun h65 => ?_) (fun h65 => ?_)
    · refine V_aload_0 hx dX11_comesNow_75 ?_
      refine V_getRe hx flX11_16 dX11_comesNow_76 rfl (k49 hN) (hF.1 49 2 52 rfl) ?_
      refine V_iload_1 hx dX11_comesNow_79 ?_
      refine V_ialoadx hx hF dX11_comesNow_80 (k52 hN) (by decide) (by omega) (fun r80 => ?_)
      (try simp only [up_s, up_c, up_row, up_k, ne_eq, Int.reduceEq, not_false_eq_true] at r80 ⊢)
      refine V_aload_0 hx dX11_comesNow_81 ?_
      refine V_iload_1 hx dX11_comesNow_82 ?_
      refine V_iconst hx dX11_comesNow_83 ?_
      refine V_v2Q hx el ed (c_X11_setOf hN hF (by omega)) myX11_setOf mlX11_92 dX11_comesNow_84 ⟨_, rfl, rfl⟩ (k49 hN) (by decide) (by omega) rfl (by first | exact Nat.le_of_ble_eq_true rfl | simp [vI, vL, vR_cat, Value.category]) (fun r84 => ?_)
      (try simp only [up_s, up_c, up_row, up_k, ne_eq, Int.reduceEq, not_false_eq_true] at r84 ⊢)
      refine V_iadd hx dX11_comesNow_87 ?_
      refine V_topI (nGate0 I s) (by unfold nGate0; first | rw [cif_t (by omega)] | rw [cif_f (by omega)]) ?_
      have hg0 : 0 ≤ nGate0 I s ∧ nGate0 I s ≤ 300000 := by
        unfold nGate0
        by_cases q : I 53 s = 0
        · rw [cif_t q]; omega
        · rw [cif_f q]; omega
      refine V_istore_4 hx (by first | exact nc_I | exact nc_R | exact nc_n) dX11_comesNow_88 ?_
      refine V_aload_0 hx dX11_comesNow_90 ?_
      refine V_getRe hx flX11_16 dX11_comesNow_91 rfl (k49 hN) (hF.1 49 2 52 rfl) ?_
      refine V_iload_1 hx dX11_comesNow_94 ?_
      refine V_iload_4 hx dX11_comesNow_95 ?_
      refine V_aload_0 hx dX11_comesNow_97 ?_
      refine V_getIx 7 hx hF flX11_111 dX11_comesNow_98 rfl rfl (k49 hN) (fun r98 => ?_)
      (try simp only [up_s, up_c, up_row, up_k, ne_eq, Int.reduceEq, not_false_eq_true] at r98 ⊢)
      refine V_icmp_le (tgt := 109) hx dX11_comesNow_101 (by decide) (by omega) (by omega) (fun h101 => ?_) (fun h101 => ?_)
      · refine V_aload_0 hx dX11_comesNow_109 ?_
        refine V_getIx 7 hx hF flX11_111 dX11_comesNow_110 rfl rfl (k49 hN) (fun r110 => ?_)
        (try simp only [up_s, up_c, up_row, up_k, ne_eq, Int.reduceEq, not_false_eq_true] at r110 ⊢)
        refine V_topI (nGate I s) (by unfold nGate; first | rw [cif_t (by omega)] | rw [cif_f (by omega)]) ?_
        have hg1 : 0 ≤ nGate I s ∧ nGate I s ≤ 300000 := by
          unfold nGate
          by_cases q : I 49 7 < nGate0 I s
          · rw [cif_t q]; omega
          · rw [cif_f q]; omega
        refine V_iastorex hx hF dX11_comesNow_113 (k52 hN) (by decide) (by omega) (fx_none rfl _) (by omega) (Or.inl (by decide)) (fun hF => ?_)
        refine V_aload_0 hx dX11_comesNow_114 ?_
        refine V_iload_3 hx dX11_comesNow_115 ?_
        refine V_iconst hx dX11_comesNow_116 ?_
        refine V_aload_0 hx dX11_comesNow_117 ?_
        refine V_iload_1 hx dX11_comesNow_118 ?_
        refine V_iconst hx dX11_comesNow_119 ?_
        refine V_v2Q hx el ed (c_X11_setOf hN hF (by omega)) myX11_setOf mlX11_92 dX11_comesNow_120 ⟨_, rfl, rfl⟩ (k49 hN) (by decide) (by omega) rfl (by first | exact Nat.le_of_ble_eq_true rfl | simp [vI, vL, vR_cat, Value.category]) (fun r120 => ?_)
        (try simp only [up_s, up_c, up_row, up_k, ne_eq, Int.reduceEq, not_false_eq_true] at r120 ⊢)
        refine V_v3N hx el ed (c_X11_puts hN hF (by omega) (by omega)) myX11_puts mlX11_114 dX11_comesNow_123 ⟨_, rfl, rfl⟩ (k49 hN) (by decide) (by omega) rfl (by first | exact Nat.le_of_ble_eq_true rfl | simp [vI, vL, vR_cat, Value.category]) (fun N1 I1 ⟨eN, eI, hF⟩ => ?_)
        subst eN; subst eI
        refine V_aload_0 hx dX11_comesNow_126 ?_
        refine V_iload_3 hx dX11_comesNow_127 ?_
        refine V_iconst hx dX11_comesNow_128 ?_
        refine V_iload_2 hx dX11_comesNow_129 ?_
        refine V_v3N hx el ed (c_X11_puts hN hF (by omega) (by omega)) myX11_puts mlX11_114 dX11_comesNow_130 ⟨_, rfl, rfl⟩ (k49 hN) (by decide) (by omega) rfl (by first | exact Nat.le_of_ble_eq_true rfl | simp [vI, vL, vR_cat, Value.category]) (fun N1 I1 ⟨eN, eI, hF⟩ => ?_)
        subst eN; subst eI
        refine V_aload_0 hx dX11_comesNow_133 ?_
        refine V_iload_3 hx dX11_comesNow_134 ?_
        refine V_iconst hx dX11_comesNow_135 ?_
        refine V_aload_0 hx dX11_comesNow_136 ?_
        refine V_getIx 7 hx hF flX11_111 dX11_comesNow_137 rfl rfl (k49 hN) (fun r137 => ?_)
        (try simp only [up_s, up_c, up_row, up_k, ne_eq, Int.reduceEq, not_false_eq_true] at r137 ⊢)
        refine V_v3N hx el ed (c_X11_puts hN hF (by omega) (by omega)) myX11_puts mlX11_114 dX11_comesNow_140 ⟨_, rfl, rfl⟩ (k49 hN) (by decide) (by omega) rfl (by first | exact Nat.le_of_ble_eq_true rfl | simp [vI, vL, vR_cat, Value.category]) (fun N1 I1 ⟨eN, eI, hF⟩ => ?_)
        subst eN; subst eI
        refine V_aload_0 hx dX11_comesNow_143 ?_
        refine V_iload_3 hx dX11_comesNow_144 ?_
        refine V_iconst hx dX11_comesNow_145 ?_
        refine V_aload_0 hx dX11_comesNow_146 ?_
        refine V_getIx 7 hx hF flX11_111 dX11_comesNow_147 rfl rfl (k49 hN) (fun r147 => ?_)
        (try simp only [up_s, up_c, up_row, up_k, ne_eq, Int.reduceEq, not_false_eq_true] at r147 ⊢)
        refine V_aload_0 hx dX11_comesNow_150 ?_
        refine V_iload_1 hx dX11_comesNow_151 ?_
        refine V_iconst hx dX11_comesNow_152 ?_
        refine V_v2Q hx el ed (c_X11_setOf hN hF (by omega)) myX11_setOf mlX11_92 dX11_comesNow_153 ⟨_, rfl, rfl⟩ (k49 hN) (by decide) (by omega) rfl (by first | exact Nat.le_of_ble_eq_true rfl | simp [vI, vL, vR_cat, Value.category]) (fun r153 => ?_)
        (try simp only [up_s, up_c, up_row, up_k, ne_eq, Int.reduceEq, not_false_eq_true] at r153 ⊢)
        refine V_iadd hx dX11_comesNow_156 ?_
        refine V_v3N hx el ed (c_X11_puts hN hF (by omega) (by omega)) myX11_puts mlX11_114 dX11_comesNow_157 ⟨_, rfl, rfl⟩ (k49 hN) (by decide) (by omega) rfl (by first | exact Nat.le_of_ble_eq_true rfl | simp [vI, vL, vR_cat, Value.category]) (fun N1 I1 ⟨eN, eI, hF⟩ => ?_)
        subst eN; subst eI
        refine V_aload_0 hx dX11_comesNow_160 ?_
        refine V_iload_3 hx dX11_comesNow_161 ?_
        refine V_iconst hx dX11_comesNow_162 ?_
        refine V_aload_0 hx dX11_comesNow_163 ?_
        refine V_getRe hx flX11_19 dX11_comesNow_164 rfl (k49 hN) (hF.1 49 3 53 rfl) ?_
        refine V_iload_1 hx dX11_comesNow_167 ?_
        refine V_ialoadx hx hF dX11_comesNow_168 (k53 hN) (by decide) (by omega) (fun r168 => ?_)
        (try simp only [up_s, up_c, up_row, up_k, ne_eq, Int.reduceEq, not_false_eq_true] at r168 ⊢)
        refine V_v3N hx el ed (c_X11_puts hN hF (by omega) (by omega)) myX11_puts mlX11_114 dX11_comesNow_169 ⟨_, rfl, rfl⟩ (k49 hN) (by decide) (by omega) rfl (by first | exact Nat.le_of_ble_eq_true rfl | simp [vI, vL, vR_cat, Value.category]) (fun N1 I1 ⟨eN, eI, hF⟩ => ?_)
        subst eN; subst eI
        refine V_aload_0 hx dX11_comesNow_172 ?_
        refine V_iload_3 hx dX11_comesNow_173 ?_
        refine V_iconst hx dX11_comesNow_174 ?_
        refine V_aload_0 hx dX11_comesNow_175 ?_
        refine V_getRe hx flX11_13 dX11_comesNow_176 rfl (k49 hN) (hF.1 49 1 51 rfl) ?_
        refine V_iload_1 hx dX11_comesNow_179 ?_
        refine V_ialoadx hx hF dX11_comesNow_180 (k51 hN) (by decide) (by omega) (fun r180 => ?_)
        (try simp only [up_s, up_c, up_row, up_k, ne_eq, Int.reduceEq, not_false_eq_true] at r180 ⊢)
        refine V_v3N hx el ed (c_X11_puts hN hF (by omega) (by omega)) myX11_puts mlX11_114 dX11_comesNow_181 ⟨_, rfl, rfl⟩ (k49 hN) (by decide) (by omega) rfl (by first | exact Nat.le_of_ble_eq_true rfl | simp [vI, vL, vR_cat, Value.category]) (fun N1 I1 ⟨eN, eI, hF⟩ => ?_)
        subst eN; subst eI
        refine V_aload_0 hx dX11_comesNow_184 ?_
        refine V_iload_3 hx dX11_comesNow_185 ?_
        refine V_bipush hx dX11_comesNow_186 (by decide) ?_
        refine V_iload_1 hx dX11_comesNow_188 ?_
        refine V_v3N hx el ed (c_X11_puts hN hF (by omega) (by omega)) myX11_puts mlX11_114 dX11_comesNow_189 ⟨_, rfl, rfl⟩ (k49 hN) (by decide) (by omega) rfl (by first | exact Nat.le_of_ble_eq_true rfl | simp [vI, vL, vR_cat, Value.category]) (fun N1 I1 ⟨eN, eI, hF⟩ => ?_)
        subst eN; subst eI
        refine V_aload_0 hx dX11_comesNow_192 ?_
        refine V_iload_3 hx dX11_comesNow_193 ?_
        refine V_bipush hx dX11_comesNow_194 (by decide) ?_
        refine V_aload_0 hx dX11_comesNow_196 ?_
        refine V_getRe hx flX11_16 dX11_comesNow_197 rfl (k49 hN) (hF.1 49 2 52 rfl) ?_
        refine V_iload_1 hx dX11_comesNow_200 ?_
        refine V_ialoadx hx hF dX11_comesNow_201 (k52 hN) (by decide) (by omega) (fun r201 => ?_)
        (try simp only [up_s, up_c, up_row, up_k, ne_eq, Int.reduceEq, not_false_eq_true] at r201 ⊢)
        refine V_v3N hx el ed (c_X11_puts hN hF (by omega) (by omega)) myX11_puts mlX11_114 dX11_comesNow_202 ⟨_, rfl, rfl⟩ (k49 hN) (by decide) (by omega) rfl (by first | exact Nat.le_of_ble_eq_true rfl | simp [vI, vL, vR_cat, Value.category]) (fun N1 I1 ⟨eN, eI, hF⟩ => ?_)
        subst eN; subst eI
        refine V_aload_0 hx dX11_comesNow_205 ?_
        refine V_iload_3 hx dX11_comesNow_206 ?_
        refine V_bipush hx dX11_comesNow_207 (by decide) ?_
        refine V_aload_0 hx dX11_comesNow_209 ?_
        refine V_iload_1 hx dX11_comesNow_210 ?_
        refine V_iconst hx dX11_comesNow_211 ?_
        refine V_v2Q hx el ed (c_X11_setOf hN hF (by omega)) myX11_setOf mlX11_92 dX11_comesNow_212 ⟨_, rfl, rfl⟩ (k49 hN) (by decide) (by omega) rfl (by first | exact Nat.le_of_ble_eq_true rfl | simp [vI, vL, vR_cat, Value.category]) (fun r212 => ?_)
        (try simp only [up_s, up_c, up_row, up_k, ne_eq, Int.reduceEq, not_false_eq_true] at r212 ⊢)
        refine V_v3N hx el ed (c_X11_puts hN hF (by omega) (by omega)) myX11_puts mlX11_114 dX11_comesNow_215 ⟨_, rfl, rfl⟩ (k49 hN) (by decide) (by omega) rfl (by first | exact Nat.le_of_ble_eq_true rfl | simp [vI, vL, vR_cat, Value.category]) (fun N1 I1 ⟨eN, eI, hF⟩ => ?_)
        subst eN; subst eI
        refine V_aload_0 hx dX11_comesNow_218 ?_
        refine V_iload_3 hx dX11_comesNow_219 ?_
        refine V_bipush hx dX11_comesNow_220 (by decide) ?_
        refine V_iconst hx dX11_comesNow_222 ?_
        refine V_v3N hx el ed (c_X11_puts hN hF (by omega) (by omega)) myX11_puts mlX11_114 dX11_comesNow_223 ⟨_, rfl, rfl⟩ (k49 hN) (by decide) (by omega) rfl (by first | exact Nat.le_of_ble_eq_true rfl | simp [vI, vL, vR_cat, Value.category]) (fun N1 I1 ⟨eN, eI, hF⟩ => ?_)
        subst eN; subst eI
        refine V_aload_0 hx dX11_comesNow_226 ?_
        refine V_iload_3 hx dX11_comesNow_227 ?_
        refine V_bipush hx dX11_comesNow_228 (by decide) ?_
        refine V_bipush hx dX11_comesNow_230 (by decide) ?_
        refine V_v3N hx el ed (c_X11_puts hN hF (by omega) (by omega)) myX11_puts mlX11_114 dX11_comesNow_232 ⟨_, rfl, rfl⟩ (k49 hN) (by decide) (by omega) rfl (by first | exact Nat.le_of_ble_eq_true rfl | simp [vI, vL, vR_cat, Value.category]) (fun N1 I1 ⟨eN, eI, hF⟩ => ?_)
        subst eN; subst eI
        refine V_aload_0 hx dX11_comesNow_235 ?_
        refine V_iload_3 hx dX11_comesNow_236 ?_
        refine V_bipush hx dX11_comesNow_237 (by decide) ?_
        refine V_bipush hx dX11_comesNow_239 (by decide) ?_
        refine V_v3N hx el ed (c_X11_puts hN hF (by omega) (by omega)) myX11_puts mlX11_114 dX11_comesNow_241 ⟨_, rfl, rfl⟩ (k49 hN) (by decide) (by omega) rfl (by first | exact Nat.le_of_ble_eq_true rfl | simp [vI, vL, vR_cat, Value.category]) (fun N1 I1 ⟨eN, eI, hF⟩ => ?_)
        subst eN; subst eI
        refine V_aload_0 hx dX11_comesNow_244 ?_
        refine V_iload_3 hx dX11_comesNow_245 ?_
        refine V_bipush hx dX11_comesNow_246 (by decide) ?_
        refine V_iconst hx dX11_comesNow_248 ?_
        refine V_v3N hx el ed (c_X11_puts hN hF (by omega) (by omega)) myX11_puts mlX11_114 dX11_comesNow_249 ⟨_, rfl, rfl⟩ (k49 hN) (by decide) (by omega) rfl (by first | exact Nat.le_of_ble_eq_true rfl | simp [vI, vL, vR_cat, Value.category]) (fun N1 I1 ⟨eN, eI, hF⟩ => ?_)
        subst eN; subst eI
        refine V_aload_0 hx dX11_comesNow_252 ?_
        refine V_getRe hx flX11_19 dX11_comesNow_253 rfl (k49 hN) (hF.1 49 3 53 rfl) ?_
        refine V_iload_1 hx dX11_comesNow_256 ?_
        refine V_dup2 hx dX11_comesNow_257 ?_
        refine V_ialoadx hx hF dX11_comesNow_258 (k53 hN) (by decide) (by omega) (fun r258 => ?_)
        (try simp only [up_s, up_c, up_row, up_k, ne_eq, Int.reduceEq, not_false_eq_true] at r258 ⊢)
        refine V_iconst hx dX11_comesNow_259 ?_
        refine V_iadd hx dX11_comesNow_260 ?_
        refine V_iastorex hx hF dX11_comesNow_261 (k53 hN) (by decide) (by omega) (fx_none rfl _) (by omega) (Or.inl (by decide)) (fun hF => ?_)
        refine V_drop_4 ?_
        exact J262 hF
      · refine V_iload_4 hx dX11_comesNow_104 ?_
        refine V_goto (tgt := 113) hx dX11_comesNow_106 (by decide) ?_
        refine V_topI (nGate I s) (by unfold nGate; first | rw [cif_t (by omega)] | rw [cif_f (by omega)]) ?_
        have hg1 : 0 ≤ nGate I s ∧ nGate I s ≤ 300000 := by
          unfold nGate
          by_cases q : I 49 7 < nGate0 I s
          · rw [cif_t q]; omega
          · rw [cif_f q]; omega
        refine V_iastorex hx hF dX11_comesNow_113 (k52 hN) (by decide) (by omega) (fx_none rfl _) (by omega) (Or.inl (by decide)) (fun hF => ?_)
        refine V_aload_0 hx dX11_comesNow_114 ?_
        refine V_iload_3 hx dX11_comesNow_115 ?_
        refine V_iconst hx dX11_comesNow_116 ?_
        refine V_aload_0 hx dX11_comesNow_117 ?_
        refine V_iload_1 hx dX11_comesNow_118 ?_
        refine V_iconst hx dX11_comesNow_119 ?_
        refine V_v2Q hx el ed (c_X11_setOf hN hF (by omega)) myX11_setOf mlX11_92 dX11_comesNow_120 ⟨_, rfl, rfl⟩ (k49 hN) (by decide) (by omega) rfl (by first | exact Nat.le_of_ble_eq_true rfl | simp [vI, vL, vR_cat, Value.category]) (fun r120 => ?_)
        (try simp only [up_s, up_c, up_row, up_k, ne_eq, Int.reduceEq, not_false_eq_true] at r120 ⊢)
        refine V_v3N hx el ed (c_X11_puts hN hF (by omega) (by omega)) myX11_puts mlX11_114 dX11_comesNow_123 ⟨_, rfl, rfl⟩ (k49 hN) (by decide) (by omega) rfl (by first | exact Nat.le_of_ble_eq_true rfl | simp [vI, vL, vR_cat, Value.category]) (fun N1 I1 ⟨eN, eI, hF⟩ => ?_)
        subst eN; subst eI
        refine V_aload_0 hx dX11_comesNow_126 ?_
        refine V_iload_3 hx dX11_comesNow_127 ?_
        refine V_iconst hx dX11_comesNow_128 ?_
        refine V_iload_2 hx dX11_comesNow_129 ?_
        refine V_v3N hx el ed (c_X11_puts hN hF (by omega) (by omega)) myX11_puts mlX11_114 dX11_comesNow_130 ⟨_, rfl, rfl⟩ (k49 hN) (by decide) (by omega) rfl (by first | exact Nat.le_of_ble_eq_true rfl | simp [vI, vL, vR_cat, Value.category]) (fun N1 I1 ⟨eN, eI, hF⟩ => ?_)
        subst eN; subst eI
        refine V_aload_0 hx dX11_comesNow_133 ?_
        refine V_iload_3 hx dX11_comesNow_134 ?_
        refine V_iconst hx dX11_comesNow_135 ?_
        refine V_aload_0 hx dX11_comesNow_136 ?_
        refine V_getIx 7 hx hF flX11_111 dX11_comesNow_137 rfl rfl (k49 hN) (fun r137 => ?_)
        (try simp only [up_s, up_c, up_row, up_k, ne_eq, Int.reduceEq, not_false_eq_true] at r137 ⊢)
        refine V_v3N hx el ed (c_X11_puts hN hF (by omega) (by omega)) myX11_puts mlX11_114 dX11_comesNow_140 ⟨_, rfl, rfl⟩ (k49 hN) (by decide) (by omega) rfl (by first | exact Nat.le_of_ble_eq_true rfl | simp [vI, vL, vR_cat, Value.category]) (fun N1 I1 ⟨eN, eI, hF⟩ => ?_)
        subst eN; subst eI
        refine V_aload_0 hx dX11_comesNow_143 ?_
        refine V_iload_3 hx dX11_comesNow_144 ?_
        refine V_iconst hx dX11_comesNow_145 ?_
        refine V_aload_0 hx dX11_comesNow_146 ?_
        refine V_getIx 7 hx hF flX11_111 dX11_comesNow_147 rfl rfl (k49 hN) (fun r147 => ?_)
        (try simp only [up_s, up_c, up_row, up_k, ne_eq, Int.reduceEq, not_false_eq_true] at r147 ⊢)
        refine V_aload_0 hx dX11_comesNow_150 ?_
        refine V_iload_1 hx dX11_comesNow_151 ?_
        refine V_iconst hx dX11_comesNow_152 ?_
        refine V_v2Q hx el ed (c_X11_setOf hN hF (by omega)) myX11_setOf mlX11_92 dX11_comesNow_153 ⟨_, rfl, rfl⟩ (k49 hN) (by decide) (by omega) rfl (by first | exact Nat.le_of_ble_eq_true rfl | simp [vI, vL, vR_cat, Value.category]) (fun r153 => ?_)
        (try simp only [up_s, up_c, up_row, up_k, ne_eq, Int.reduceEq, not_false_eq_true] at r153 ⊢)
        refine V_iadd hx dX11_comesNow_156 ?_
        refine V_v3N hx el ed (c_X11_puts hN hF (by omega) (by omega)) myX11_puts mlX11_114 dX11_comesNow_157 ⟨_, rfl, rfl⟩ (k49 hN) (by decide) (by omega) rfl (by first | exact Nat.le_of_ble_eq_true rfl | simp [vI, vL, vR_cat, Value.category]) (fun N1 I1 ⟨eN, eI, hF⟩ => ?_)
        subst eN; subst eI
        refine V_aload_0 hx dX11_comesNow_160 ?_
        refine V_iload_3 hx dX11_comesNow_161 ?_
        refine V_iconst hx dX11_comesNow_162 ?_
        refine V_aload_0 hx dX11_comesNow_163 ?_
        refine V_getRe hx flX11_19 dX11_comesNow_164 rfl (k49 hN) (hF.1 49 3 53 rfl) ?_
        refine V_iload_1 hx dX11_comesNow_167 ?_
        refine V_ialoadx hx hF dX11_comesNow_168 (k53 hN) (by decide) (by omega) (fun r168 => ?_)
        (try simp only [up_s, up_c, up_row, up_k, ne_eq, Int.reduceEq, not_false_eq_true] at r168 ⊢)
        refine V_v3N hx el ed (c_X11_puts hN hF (by omega) (by omega)) myX11_puts mlX11_114 dX11_comesNow_169 ⟨_, rfl, rfl⟩ (k49 hN) (by decide) (by omega) rfl (by first | exact Nat.le_of_ble_eq_true rfl | simp [vI, vL, vR_cat, Value.category]) (fun N1 I1 ⟨eN, eI, hF⟩ => ?_)
        subst eN; subst eI
        refine V_aload_0 hx dX11_comesNow_172 ?_
        refine V_iload_3 hx dX11_comesNow_173 ?_
        refine V_iconst hx dX11_comesNow_174 ?_
        refine V_aload_0 hx dX11_comesNow_175 ?_
        refine V_getRe hx flX11_13 dX11_comesNow_176 rfl (k49 hN) (hF.1 49 1 51 rfl) ?_
        refine V_iload_1 hx dX11_comesNow_179 ?_
        refine V_ialoadx hx hF dX11_comesNow_180 (k51 hN) (by decide) (by omega) (fun r180 => ?_)
        (try simp only [up_s, up_c, up_row, up_k, ne_eq, Int.reduceEq, not_false_eq_true] at r180 ⊢)
        refine V_v3N hx el ed (c_X11_puts hN hF (by omega) (by omega)) myX11_puts mlX11_114 dX11_comesNow_181 ⟨_, rfl, rfl⟩ (k49 hN) (by decide) (by omega) rfl (by first | exact Nat.le_of_ble_eq_true rfl | simp [vI, vL, vR_cat, Value.category]) (fun N1 I1 ⟨eN, eI, hF⟩ => ?_)
        subst eN; subst eI
        refine V_aload_0 hx dX11_comesNow_184 ?_
        refine V_iload_3 hx dX11_comesNow_185 ?_
        refine V_bipush hx dX11_comesNow_186 (by decide) ?_
        refine V_iload_1 hx dX11_comesNow_188 ?_
        refine V_v3N hx el ed (c_X11_puts hN hF (by omega) (by omega)) myX11_puts mlX11_114 dX11_comesNow_189 ⟨_, rfl, rfl⟩ (k49 hN) (by decide) (by omega) rfl (by first | exact Nat.le_of_ble_eq_true rfl | simp [vI, vL, vR_cat, Value.category]) (fun N1 I1 ⟨eN, eI, hF⟩ => ?_)
        subst eN; subst eI
        refine V_aload_0 hx dX11_comesNow_192 ?_
        refine V_iload_3 hx dX11_comesNow_193 ?_
        refine V_bipush hx dX11_comesNow_194 (by decide) ?_
        refine V_aload_0 hx dX11_comesNow_196 ?_
        refine V_getRe hx flX11_16 dX11_comesNow_197 rfl (k49 hN) (hF.1 49 2 52 rfl) ?_
        refine V_iload_1 hx dX11_comesNow_200 ?_
        refine V_ialoadx hx hF dX11_comesNow_201 (k52 hN) (by decide) (by omega) (fun r201 => ?_)
        (try simp only [up_s, up_c, up_row, up_k, ne_eq, Int.reduceEq, not_false_eq_true] at r201 ⊢)
        refine V_v3N hx el ed (c_X11_puts hN hF (by omega) (by omega)) myX11_puts mlX11_114 dX11_comesNow_202 ⟨_, rfl, rfl⟩ (k49 hN) (by decide) (by omega) rfl (by first | exact Nat.le_of_ble_eq_true rfl | simp [vI, vL, vR_cat, Value.category]) (fun N1 I1 ⟨eN, eI, hF⟩ => ?_)
        subst eN; subst eI
        refine V_aload_0 hx dX11_comesNow_205 ?_
        refine V_iload_3 hx dX11_comesNow_206 ?_
        refine V_bipush hx dX11_comesNow_207 (by decide) ?_
        refine V_aload_0 hx dX11_comesNow_209 ?_
        refine V_iload_1 hx dX11_comesNow_210 ?_
        refine V_iconst hx dX11_comesNow_211 ?_
        refine V_v2Q hx el ed (c_X11_setOf hN hF (by omega)) myX11_setOf mlX11_92 dX11_comesNow_212 ⟨_, rfl, rfl⟩ (k49 hN) (by decide) (by omega) rfl (by first | exact Nat.le_of_ble_eq_true rfl | simp [vI, vL, vR_cat, Value.category]) (fun r212 => ?_)
        (try simp only [up_s, up_c, up_row, up_k, ne_eq, Int.reduceEq, not_false_eq_true] at r212 ⊢)
        refine V_v3N hx el ed (c_X11_puts hN hF (by omega) (by omega)) myX11_puts mlX11_114 dX11_comesNow_215 ⟨_, rfl, rfl⟩ (k49 hN) (by decide) (by omega) rfl (by first | exact Nat.le_of_ble_eq_true rfl | simp [vI, vL, vR_cat, Value.category]) (fun N1 I1 ⟨eN, eI, hF⟩ => ?_)
        subst eN; subst eI
        refine V_aload_0 hx dX11_comesNow_218 ?_
        refine V_iload_3 hx dX11_comesNow_219 ?_
        refine V_bipush hx dX11_comesNow_220 (by decide) ?_
        refine V_iconst hx dX11_comesNow_222 ?_
        refine V_v3N hx el ed (c_X11_puts hN hF (by omega) (by omega)) myX11_puts mlX11_114 dX11_comesNow_223 ⟨_, rfl, rfl⟩ (k49 hN) (by decide) (by omega) rfl (by first | exact Nat.le_of_ble_eq_true rfl | simp [vI, vL, vR_cat, Value.category]) (fun N1 I1 ⟨eN, eI, hF⟩ => ?_)
        subst eN; subst eI
        refine V_aload_0 hx dX11_comesNow_226 ?_
        refine V_iload_3 hx dX11_comesNow_227 ?_
        refine V_bipush hx dX11_comesNow_228 (by decide) ?_
        refine V_bipush hx dX11_comesNow_230 (by decide) ?_
        refine V_v3N hx el ed (c_X11_puts hN hF (by omega) (by omega)) myX11_puts mlX11_114 dX11_comesNow_232 ⟨_, rfl, rfl⟩ (k49 hN) (by decide) (by omega) rfl (by first | exact Nat.le_of_ble_eq_true rfl | simp [vI, vL, vR_cat, Value.category]) (fun N1 I1 ⟨eN, eI, hF⟩ => ?_)
        subst eN; subst eI
        refine V_aload_0 hx dX11_comesNow_235 ?_
        refine V_iload_3 hx dX11_comesNow_236 ?_
        refine V_bipush hx dX11_comesNow_237 (by decide) ?_
        refine V_bipush hx dX11_comesNow_239 (by decide) ?_
        refine V_v3N hx el ed (c_X11_puts hN hF (by omega) (by omega)) myX11_puts mlX11_114 dX11_comesNow_241 ⟨_, rfl, rfl⟩ (k49 hN) (by decide) (by omega) rfl (by first | exact Nat.le_of_ble_eq_true rfl | simp [vI, vL, vR_cat, Value.category]) (fun N1 I1 ⟨eN, eI, hF⟩ => ?_)
        subst eN; subst eI
        refine V_aload_0 hx dX11_comesNow_244 ?_
        refine V_iload_3 hx dX11_comesNow_245 ?_
        refine V_bipush hx dX11_comesNow_246 (by decide) ?_
        refine V_iconst hx dX11_comesNow_248 ?_
        refine V_v3N hx el ed (c_X11_puts hN hF (by omega) (by omega)) myX11_puts mlX11_114 dX11_comesNow_249 ⟨_, rfl, rfl⟩ (k49 hN) (by decide) (by omega) rfl (by first | exact Nat.le_of_ble_eq_true rfl | simp [vI, vL, vR_cat, Value.category]) (fun N1 I1 ⟨eN, eI, hF⟩ => ?_)
        subst eN; subst eI
        refine V_aload_0 hx dX11_comesNow_252 ?_
        refine V_getRe hx flX11_19 dX11_comesNow_253 rfl (k49 hN) (hF.1 49 3 53 rfl) ?_
        refine V_iload_1 hx dX11_comesNow_256 ?_
        refine V_dup2 hx dX11_comesNow_257 ?_
        refine V_ialoadx hx hF dX11_comesNow_258 (k53 hN) (by decide) (by omega) (fun r258 => ?_)
        (try simp only [up_s, up_c, up_row, up_k, ne_eq, Int.reduceEq, not_false_eq_true] at r258 ⊢)
        refine V_iconst hx dX11_comesNow_259 ?_
        refine V_iadd hx dX11_comesNow_260 ?_
        refine V_iastorex hx hF dX11_comesNow_261 (k53 hN) (by decide) (by omega) (fx_none rfl _) (by omega) (Or.inl (by decide)) (fun hF => ?_)
        refine V_drop_4 ?_
        exact J262 hF
    · refine V_aload_0 hx dX11_comesNow_68 ?_
      refine V_getIx 7 hx hF flX11_111 dX11_comesNow_69 rfl rfl (k49 hN) (fun r69 => ?_)
      (try simp only [up_s, up_c, up_row, up_k, ne_eq, Int.reduceEq, not_false_eq_true] at r69 ⊢)
      refine V_goto (tgt := 88) hx dX11_comesNow_72 (by decide) ?_
      refine V_topI (nGate0 I s) (by unfold nGate0; first | rw [cif_t (by omega)] | rw [cif_f (by omega)]) ?_
      have hg0 : 0 ≤ nGate0 I s ∧ nGate0 I s ≤ 300000 := by
        unfold nGate0
        by_cases q : I 53 s = 0
        · rw [cif_t q]; omega
        · rw [cif_f q]; omega
      refine V_istore_4 hx (by first | exact nc_I | exact nc_R | exact nc_n) dX11_comesNow_88 ?_
      refine V_aload_0 hx dX11_comesNow_90 ?_
      refine V_getRe hx flX11_16 dX11_comesNow_91 rfl (k49 hN) (hF.1 49 2 52 rfl) ?_
      refine V_iload_1 hx dX11_comesNow_94 ?_
      refine V_iload_4 hx dX11_comesNow_95 ?_
      refine V_aload_0 hx dX11_comesNow_97 ?_
      refine V_getIx 7 hx hF flX11_111 dX11_comesNow_98 rfl rfl (k49 hN) (fun r98 => ?_)
      (try simp only [up_s, up_c, up_row, up_k, ne_eq, Int.reduceEq, not_false_eq_true] at r98 ⊢)
      refine V_icmp_le (tgt := 109) hx dX11_comesNow_101 (by decide) (by omega) (by omega) (fun h101 => ?_) (fun h101 => ?_)
      · refine V_aload_0 hx dX11_comesNow_109 ?_
        refine V_getIx 7 hx hF flX11_111 dX11_comesNow_110 rfl rfl (k49 hN) (fun r110 => ?_)
        (try simp only [up_s, up_c, up_row, up_k, ne_eq, Int.reduceEq, not_false_eq_true] at r110 ⊢)
        refine V_topI (nGate I s) (by unfold nGate; first | rw [cif_t (by omega)] | rw [cif_f (by omega)]) ?_
        have hg1 : 0 ≤ nGate I s ∧ nGate I s ≤ 300000 := by
          unfold nGate
          by_cases q : I 49 7 < nGate0 I s
          · rw [cif_t q]; omega
          · rw [cif_f q]; omega
        refine V_iastorex hx hF dX11_comesNow_113 (k52 hN) (by decide) (by omega) (fx_none rfl _) (by omega) (Or.inl (by decide)) (fun hF => ?_)
        refine V_aload_0 hx dX11_comesNow_114 ?_
        refine V_iload_3 hx dX11_comesNow_115 ?_
        refine V_iconst hx dX11_comesNow_116 ?_
        refine V_aload_0 hx dX11_comesNow_117 ?_
        refine V_iload_1 hx dX11_comesNow_118 ?_
        refine V_iconst hx dX11_comesNow_119 ?_
        refine V_v2Q hx el ed (c_X11_setOf hN hF (by omega)) myX11_setOf mlX11_92 dX11_comesNow_120 ⟨_, rfl, rfl⟩ (k49 hN) (by decide) (by omega) rfl (by first | exact Nat.le_of_ble_eq_true rfl | simp [vI, vL, vR_cat, Value.category]) (fun r120 => ?_)
        (try simp only [up_s, up_c, up_row, up_k, ne_eq, Int.reduceEq, not_false_eq_true] at r120 ⊢)
        refine V_v3N hx el ed (c_X11_puts hN hF (by omega) (by omega)) myX11_puts mlX11_114 dX11_comesNow_123 ⟨_, rfl, rfl⟩ (k49 hN) (by decide) (by omega) rfl (by first | exact Nat.le_of_ble_eq_true rfl | simp [vI, vL, vR_cat, Value.category]) (fun N1 I1 ⟨eN, eI, hF⟩ => ?_)
        subst eN; subst eI
        refine V_aload_0 hx dX11_comesNow_126 ?_
        refine V_iload_3 hx dX11_comesNow_127 ?_
        refine V_iconst hx dX11_comesNow_128 ?_
        refine V_iload_2 hx dX11_comesNow_129 ?_
        refine V_v3N hx el ed (c_X11_puts hN hF (by omega) (by omega)) myX11_puts mlX11_114 dX11_comesNow_130 ⟨_, rfl, rfl⟩ (k49 hN) (by decide) (by omega) rfl (by first | exact Nat.le_of_ble_eq_true rfl | simp [vI, vL, vR_cat, Value.category]) (fun N1 I1 ⟨eN, eI, hF⟩ => ?_)
        subst eN; subst eI
        refine V_aload_0 hx dX11_comesNow_133 ?_
        refine V_iload_3 hx dX11_comesNow_134 ?_
        refine V_iconst hx dX11_comesNow_135 ?_
        refine V_aload_0 hx dX11_comesNow_136 ?_
        refine V_getIx 7 hx hF flX11_111 dX11_comesNow_137 rfl rfl (k49 hN) (fun r137 => ?_)
        (try simp only [up_s, up_c, up_row, up_k, ne_eq, Int.reduceEq, not_false_eq_true] at r137 ⊢)
        refine V_v3N hx el ed (c_X11_puts hN hF (by omega) (by omega)) myX11_puts mlX11_114 dX11_comesNow_140 ⟨_, rfl, rfl⟩ (k49 hN) (by decide) (by omega) rfl (by first | exact Nat.le_of_ble_eq_true rfl | simp [vI, vL, vR_cat, Value.category]) (fun N1 I1 ⟨eN, eI, hF⟩ => ?_)
        subst eN; subst eI
        refine V_aload_0 hx dX11_comesNow_143 ?_
        refine V_iload_3 hx dX11_comesNow_144 ?_
        refine V_iconst hx dX11_comesNow_145 ?_
        refine V_aload_0 hx dX11_comesNow_146 ?_
        refine V_getIx 7 hx hF flX11_111 dX11_comesNow_147 rfl rfl (k49 hN) (fun r147 => ?_)
        (try simp only [up_s, up_c, up_row, up_k, ne_eq, Int.reduceEq, not_false_eq_true] at r147 ⊢)
        refine V_aload_0 hx dX11_comesNow_150 ?_
        refine V_iload_1 hx dX11_comesNow_151 ?_
        refine V_iconst hx dX11_comesNow_152 ?_
        refine V_v2Q hx el ed (c_X11_setOf hN hF (by omega)) myX11_setOf mlX11_92 dX11_comesNow_153 ⟨_, rfl, rfl⟩ (k49 hN) (by decide) (by omega) rfl (by first | exact Nat.le_of_ble_eq_true rfl | simp [vI, vL, vR_cat, Value.category]) (fun r153 => ?_)
        (try simp only [up_s, up_c, up_row, up_k, ne_eq, Int.reduceEq, not_false_eq_true] at r153 ⊢)
        refine V_iadd hx dX11_comesNow_156 ?_
        refine V_v3N hx el ed (c_X11_puts hN hF (by omega) (by omega)) myX11_puts mlX11_114 dX11_comesNow_157 ⟨_, rfl, rfl⟩ (k49 hN) (by decide) (by omega) rfl (by first | exact Nat.le_of_ble_eq_true rfl | simp [vI, vL, vR_cat, Value.category]) (fun N1 I1 ⟨eN, eI, hF⟩ => ?_)
        subst eN; subst eI
        refine V_aload_0 hx dX11_comesNow_160 ?_
        refine V_iload_3 hx dX11_comesNow_161 ?_
        refine V_iconst hx dX11_comesNow_162 ?_
        refine V_aload_0 hx dX11_comesNow_163 ?_
        refine V_getRe hx flX11_19 dX11_comesNow_164 rfl (k49 hN) (hF.1 49 3 53 rfl) ?_
        refine V_iload_1 hx dX11_comesNow_167 ?_
        refine V_ialoadx hx hF dX11_comesNow_168 (k53 hN) (by decide) (by omega) (fun r168 => ?_)
        (try simp only [up_s, up_c, up_row, up_k, ne_eq, Int.reduceEq, not_false_eq_true] at r168 ⊢)
        refine V_v3N hx el ed (c_X11_puts hN hF (by omega) (by omega)) myX11_puts mlX11_114 dX11_comesNow_169 ⟨_, rfl, rfl⟩ (k49 hN) (by decide) (by omega) rfl (by first | exact Nat.le_of_ble_eq_true rfl | simp [vI, vL, vR_cat, Value.category]) (fun N1 I1 ⟨eN, eI, hF⟩ => ?_)
        subst eN; subst eI
        refine V_aload_0 hx dX11_comesNow_172 ?_
        refine V_iload_3 hx dX11_comesNow_173 ?_
        refine V_iconst hx dX11_comesNow_174 ?_
        refine V_aload_0 hx dX11_comesNow_175 ?_
        refine V_getRe hx flX11_13 dX11_comesNow_176 rfl (k49 hN) (hF.1 49 1 51 rfl) ?_
        refine V_iload_1 hx dX11_comesNow_179 ?_
        refine V_ialoadx hx hF dX11_comesNow_180 (k51 hN) (by decide) (by omega) (fun r180 => ?_)
        (try simp only [up_s, up_c, up_row, up_k, ne_eq, Int.reduceEq, not_false_eq_true] at r180 ⊢)
        refine V_v3N hx el ed (c_X11_puts hN hF (by omega) (by omega)) myX11_puts mlX11_114 dX11_comesNow_181 ⟨_, rfl, rfl⟩ (k49 hN) (by decide) (by omega) rfl (by first | exact Nat.le_of_ble_eq_true rfl | simp [vI, vL, vR_cat, Value.category]) (fun N1 I1 ⟨eN, eI, hF⟩ => ?_)
        subst eN; subst eI
        refine V_aload_0 hx dX11_comesNow_184 ?_
        refine V_iload_3 hx dX11_comesNow_185 ?_
        refine V_bipush hx dX11_comesNow_186 (by decide) ?_
        refine V_iload_1 hx dX11_comesNow_188 ?_
        refine V_v3N hx el ed (c_X11_puts hN hF (by omega) (by omega)) myX11_puts mlX11_114 dX11_comesNow_189 ⟨_, rfl, rfl⟩ (k49 hN) (by decide) (by omega) rfl (by first | exact Nat.le_of_ble_eq_true rfl | simp [vI, vL, vR_cat, Value.category]) (fun N1 I1 ⟨eN, eI, hF⟩ => ?_)
        subst eN; subst eI
        refine V_aload_0 hx dX11_comesNow_192 ?_
        refine V_iload_3 hx dX11_comesNow_193 ?_
        refine V_bipush hx dX11_comesNow_194 (by decide) ?_
        refine V_aload_0 hx dX11_comesNow_196 ?_
        refine V_getRe hx flX11_16 dX11_comesNow_197 rfl (k49 hN) (hF.1 49 2 52 rfl) ?_
        refine V_iload_1 hx dX11_comesNow_200 ?_
        refine V_ialoadx hx hF dX11_comesNow_201 (k52 hN) (by decide) (by omega) (fun r201 => ?_)
        (try simp only [up_s, up_c, up_row, up_k, ne_eq, Int.reduceEq, not_false_eq_true] at r201 ⊢)
        refine V_v3N hx el ed (c_X11_puts hN hF (by omega) (by omega)) myX11_puts mlX11_114 dX11_comesNow_202 ⟨_, rfl, rfl⟩ (k49 hN) (by decide) (by omega) rfl (by first | exact Nat.le_of_ble_eq_true rfl | simp [vI, vL, vR_cat, Value.category]) (fun N1 I1 ⟨eN, eI, hF⟩ => ?_)
        subst eN; subst eI
        refine V_aload_0 hx dX11_comesNow_205 ?_
        refine V_iload_3 hx dX11_comesNow_206 ?_
        refine V_bipush hx dX11_comesNow_207 (by decide) ?_
        refine V_aload_0 hx dX11_comesNow_209 ?_
        refine V_iload_1 hx dX11_comesNow_210 ?_
        refine V_iconst hx dX11_comesNow_211 ?_
        refine V_v2Q hx el ed (c_X11_setOf hN hF (by omega)) myX11_setOf mlX11_92 dX11_comesNow_212 ⟨_, rfl, rfl⟩ (k49 hN) (by decide) (by omega) rfl (by first | exact Nat.le_of_ble_eq_true rfl | simp [vI, vL, vR_cat, Value.category]) (fun r212 => ?_)
        (try simp only [up_s, up_c, up_row, up_k, ne_eq, Int.reduceEq, not_false_eq_true] at r212 ⊢)
        refine V_v3N hx el ed (c_X11_puts hN hF (by omega) (by omega)) myX11_puts mlX11_114 dX11_comesNow_215 ⟨_, rfl, rfl⟩ (k49 hN) (by decide) (by omega) rfl (by first | exact Nat.le_of_ble_eq_true rfl | simp [vI, vL, vR_cat, Value.category]) (fun N1 I1 ⟨eN, eI, hF⟩ => ?_)
        subst eN; subst eI
        refine V_aload_0 hx dX11_comesNow_218 ?_
        refine V_iload_3 hx dX11_comesNow_219 ?_
        refine V_bipush hx dX11_comesNow_220 (by decide) ?_
        refine V_iconst hx dX11_comesNow_222 ?_
        refine V_v3N hx el ed (c_X11_puts hN hF (by omega) (by omega)) myX11_puts mlX11_114 dX11_comesNow_223 ⟨_, rfl, rfl⟩ (k49 hN) (by decide) (by omega) rfl (by first | exact Nat.le_of_ble_eq_true rfl | simp [vI, vL, vR_cat, Value.category]) (fun N1 I1 ⟨eN, eI, hF⟩ => ?_)
        subst eN; subst eI
        refine V_aload_0 hx dX11_comesNow_226 ?_
        refine V_iload_3 hx dX11_comesNow_227 ?_
        refine V_bipush hx dX11_comesNow_228 (by decide) ?_
        refine V_bipush hx dX11_comesNow_230 (by decide) ?_
        refine V_v3N hx el ed (c_X11_puts hN hF (by omega) (by omega)) myX11_puts mlX11_114 dX11_comesNow_232 ⟨_, rfl, rfl⟩ (k49 hN) (by decide) (by omega) rfl (by first | exact Nat.le_of_ble_eq_true rfl | simp [vI, vL, vR_cat, Value.category]) (fun N1 I1 ⟨eN, eI, hF⟩ => ?_)
        subst eN; subst eI
        refine V_aload_0 hx dX11_comesNow_235 ?_
        refine V_iload_3 hx dX11_comesNow_236 ?_
        refine V_bipush hx dX11_comesNow_237 (by decide) ?_
        refine V_bipush hx dX11_comesNow_239 (by decide) ?_
        refine V_v3N hx el ed (c_X11_puts hN hF (by omega) (by omega)) myX11_puts mlX11_114 dX11_comesNow_241 ⟨_, rfl, rfl⟩ (k49 hN) (by decide) (by omega) rfl (by first | exact Nat.le_of_ble_eq_true rfl | simp [vI, vL, vR_cat, Value.category]) (fun N1 I1 ⟨eN, eI, hF⟩ => ?_)
        subst eN; subst eI
        refine V_aload_0 hx dX11_comesNow_244 ?_
        refine V_iload_3 hx dX11_comesNow_245 ?_
        refine V_bipush hx dX11_comesNow_246 (by decide) ?_
        refine V_iconst hx dX11_comesNow_248 ?_
        refine V_v3N hx el ed (c_X11_puts hN hF (by omega) (by omega)) myX11_puts mlX11_114 dX11_comesNow_249 ⟨_, rfl, rfl⟩ (k49 hN) (by decide) (by omega) rfl (by first | exact Nat.le_of_ble_eq_true rfl | simp [vI, vL, vR_cat, Value.category]) (fun N1 I1 ⟨eN, eI, hF⟩ => ?_)
        subst eN; subst eI
        refine V_aload_0 hx dX11_comesNow_252 ?_
        refine V_getRe hx flX11_19 dX11_comesNow_253 rfl (k49 hN) (hF.1 49 3 53 rfl) ?_
        refine V_iload_1 hx dX11_comesNow_256 ?_
        refine V_dup2 hx dX11_comesNow_257 ?_
        refine V_ialoadx hx hF dX11_comesNow_258 (k53 hN) (by decide) (by omega) (fun r258 => ?_)
        (try simp only [up_s, up_c, up_row, up_k, ne_eq, Int.reduceEq, not_false_eq_true] at r258 ⊢)
        refine V_iconst hx dX11_comesNow_259 ?_
        refine V_iadd hx dX11_comesNow_260 ?_
        refine V_iastorex hx hF dX11_comesNow_261 (k53 hN) (by decide) (by omega) (fx_none rfl _) (by omega) (Or.inl (by decide)) (fun hF => ?_)
        refine V_drop_4 ?_
        exact J262 hF
      · refine V_iload_4 hx dX11_comesNow_104 ?_
        refine V_goto (tgt := 113) hx dX11_comesNow_106 (by decide) ?_
        refine V_topI (nGate I s) (by unfold nGate; first | rw [cif_t (by omega)] | rw [cif_f (by omega)]) ?_
        have hg1 : 0 ≤ nGate I s ∧ nGate I s ≤ 300000 := by
          unfold nGate
          by_cases q : I 49 7 < nGate0 I s
          · rw [cif_t q]; omega
          · rw [cif_f q]; omega
        refine V_iastorex hx hF dX11_comesNow_113 (k52 hN) (by decide) (by omega) (fx_none rfl _) (by omega) (Or.inl (by decide)) (fun hF => ?_)
        refine V_aload_0 hx dX11_comesNow_114 ?_
        refine V_iload_3 hx dX11_comesNow_115 ?_
        refine V_iconst hx dX11_comesNow_116 ?_
        refine V_aload_0 hx dX11_comesNow_117 ?_
        refine V_iload_1 hx dX11_comesNow_118 ?_
        refine V_iconst hx dX11_comesNow_119 ?_
        refine V_v2Q hx el ed (c_X11_setOf hN hF (by omega)) myX11_setOf mlX11_92 dX11_comesNow_120 ⟨_, rfl, rfl⟩ (k49 hN) (by decide) (by omega) rfl (by first | exact Nat.le_of_ble_eq_true rfl | simp [vI, vL, vR_cat, Value.category]) (fun r120 => ?_)
        (try simp only [up_s, up_c, up_row, up_k, ne_eq, Int.reduceEq, not_false_eq_true] at r120 ⊢)
        refine V_v3N hx el ed (c_X11_puts hN hF (by omega) (by omega)) myX11_puts mlX11_114 dX11_comesNow_123 ⟨_, rfl, rfl⟩ (k49 hN) (by decide) (by omega) rfl (by first | exact Nat.le_of_ble_eq_true rfl | simp [vI, vL, vR_cat, Value.category]) (fun N1 I1 ⟨eN, eI, hF⟩ => ?_)
        subst eN; subst eI
        refine V_aload_0 hx dX11_comesNow_126 ?_
        refine V_iload_3 hx dX11_comesNow_127 ?_
        refine V_iconst hx dX11_comesNow_128 ?_
        refine V_iload_2 hx dX11_comesNow_129 ?_
        refine V_v3N hx el ed (c_X11_puts hN hF (by omega) (by omega)) myX11_puts mlX11_114 dX11_comesNow_130 ⟨_, rfl, rfl⟩ (k49 hN) (by decide) (by omega) rfl (by first | exact Nat.le_of_ble_eq_true rfl | simp [vI, vL, vR_cat, Value.category]) (fun N1 I1 ⟨eN, eI, hF⟩ => ?_)
        subst eN; subst eI
        refine V_aload_0 hx dX11_comesNow_133 ?_
        refine V_iload_3 hx dX11_comesNow_134 ?_
        refine V_iconst hx dX11_comesNow_135 ?_
        refine V_aload_0 hx dX11_comesNow_136 ?_
        refine V_getIx 7 hx hF flX11_111 dX11_comesNow_137 rfl rfl (k49 hN) (fun r137 => ?_)
        (try simp only [up_s, up_c, up_row, up_k, ne_eq, Int.reduceEq, not_false_eq_true] at r137 ⊢)
        refine V_v3N hx el ed (c_X11_puts hN hF (by omega) (by omega)) myX11_puts mlX11_114 dX11_comesNow_140 ⟨_, rfl, rfl⟩ (k49 hN) (by decide) (by omega) rfl (by first | exact Nat.le_of_ble_eq_true rfl | simp [vI, vL, vR_cat, Value.category]) (fun N1 I1 ⟨eN, eI, hF⟩ => ?_)
        subst eN; subst eI
        refine V_aload_0 hx dX11_comesNow_143 ?_
        refine V_iload_3 hx dX11_comesNow_144 ?_
        refine V_iconst hx dX11_comesNow_145 ?_
        refine V_aload_0 hx dX11_comesNow_146 ?_
        refine V_getIx 7 hx hF flX11_111 dX11_comesNow_147 rfl rfl (k49 hN) (fun r147 => ?_)
        (try simp only [up_s, up_c, up_row, up_k, ne_eq, Int.reduceEq, not_false_eq_true] at r147 ⊢)
        refine V_aload_0 hx dX11_comesNow_150 ?_
        refine V_iload_1 hx dX11_comesNow_151 ?_
        refine V_iconst hx dX11_comesNow_152 ?_
        refine V_v2Q hx el ed (c_X11_setOf hN hF (by omega)) myX11_setOf mlX11_92 dX11_comesNow_153 ⟨_, rfl, rfl⟩ (k49 hN) (by decide) (by omega) rfl (by first | exact Nat.le_of_ble_eq_true rfl | simp [vI, vL, vR_cat, Value.category]) (fun r153 => ?_)
        (try simp only [up_s, up_c, up_row, up_k, ne_eq, Int.reduceEq, not_false_eq_true] at r153 ⊢)
        refine V_iadd hx dX11_comesNow_156 ?_
        refine V_v3N hx el ed (c_X11_puts hN hF (by omega) (by omega)) myX11_puts mlX11_114 dX11_comesNow_157 ⟨_, rfl, rfl⟩ (k49 hN) (by decide) (by omega) rfl (by first | exact Nat.le_of_ble_eq_true rfl | simp [vI, vL, vR_cat, Value.category]) (fun N1 I1 ⟨eN, eI, hF⟩ => ?_)
        subst eN; subst eI
        refine V_aload_0 hx dX11_comesNow_160 ?_
        refine V_iload_3 hx dX11_comesNow_161 ?_
        refine V_iconst hx dX11_comesNow_162 ?_
        refine V_aload_0 hx dX11_comesNow_163 ?_
        refine V_getRe hx flX11_19 dX11_comesNow_164 rfl (k49 hN) (hF.1 49 3 53 rfl) ?_
        refine V_iload_1 hx dX11_comesNow_167 ?_
        refine V_ialoadx hx hF dX11_comesNow_168 (k53 hN) (by decide) (by omega) (fun r168 => ?_)
        (try simp only [up_s, up_c, up_row, up_k, ne_eq, Int.reduceEq, not_false_eq_true] at r168 ⊢)
        refine V_v3N hx el ed (c_X11_puts hN hF (by omega) (by omega)) myX11_puts mlX11_114 dX11_comesNow_169 ⟨_, rfl, rfl⟩ (k49 hN) (by decide) (by omega) rfl (by first | exact Nat.le_of_ble_eq_true rfl | simp [vI, vL, vR_cat, Value.category]) (fun N1 I1 ⟨eN, eI, hF⟩ => ?_)
        subst eN; subst eI
        refine V_aload_0 hx dX11_comesNow_172 ?_
        refine V_iload_3 hx dX11_comesNow_173 ?_
        refine V_iconst hx dX11_comesNow_174 ?_
        refine V_aload_0 hx dX11_comesNow_175 ?_
        refine V_getRe hx flX11_13 dX11_comesNow_176 rfl (k49 hN) (hF.1 49 1 51 rfl) ?_
        refine V_iload_1 hx dX11_comesNow_179 ?_
        refine V_ialoadx hx hF dX11_comesNow_180 (k51 hN) (by decide) (by omega) (fun r180 => ?_)
        (try simp only [up_s, up_c, up_row, up_k, ne_eq, Int.reduceEq, not_false_eq_true] at r180 ⊢)
        refine V_v3N hx el ed (c_X11_puts hN hF (by omega) (by omega)) myX11_puts mlX11_114 dX11_comesNow_181 ⟨_, rfl, rfl⟩ (k49 hN) (by decide) (by omega) rfl (by first | exact Nat.le_of_ble_eq_true rfl | simp [vI, vL, vR_cat, Value.category]) (fun N1 I1 ⟨eN, eI, hF⟩ => ?_)
        subst eN; subst eI
        refine V_aload_0 hx dX11_comesNow_184 ?_
        refine V_iload_3 hx dX11_comesNow_185 ?_
        refine V_bipush hx dX11_comesNow_186 (by decide) ?_
        refine V_iload_1 hx dX11_comesNow_188 ?_
        refine V_v3N hx el ed (c_X11_puts hN hF (by omega) (by omega)) myX11_puts mlX11_114 dX11_comesNow_189 ⟨_, rfl, rfl⟩ (k49 hN) (by decide) (by omega) rfl (by first | exact Nat.le_of_ble_eq_true rfl | simp [vI, vL, vR_cat, Value.category]) (fun N1 I1 ⟨eN, eI, hF⟩ => ?_)
        subst eN; subst eI
        refine V_aload_0 hx dX11_comesNow_192 ?_
        refine V_iload_3 hx dX11_comesNow_193 ?_
        refine V_bipush hx dX11_comesNow_194 (by decide) ?_
        refine V_aload_0 hx dX11_comesNow_196 ?_
        refine V_getRe hx flX11_16 dX11_comesNow_197 rfl (k49 hN) (hF.1 49 2 52 rfl) ?_
        refine V_iload_1 hx dX11_comesNow_200 ?_
        refine V_ialoadx hx hF dX11_comesNow_201 (k52 hN) (by decide) (by omega) (fun r201 => ?_)
        (try simp only [up_s, up_c, up_row, up_k, ne_eq, Int.reduceEq, not_false_eq_true] at r201 ⊢)
        refine V_v3N hx el ed (c_X11_puts hN hF (by omega) (by omega)) myX11_puts mlX11_114 dX11_comesNow_202 ⟨_, rfl, rfl⟩ (k49 hN) (by decide) (by omega) rfl (by first | exact Nat.le_of_ble_eq_true rfl | simp [vI, vL, vR_cat, Value.category]) (fun N1 I1 ⟨eN, eI, hF⟩ => ?_)
        subst eN; subst eI
        refine V_aload_0 hx dX11_comesNow_205 ?_
        refine V_iload_3 hx dX11_comesNow_206 ?_
        refine V_bipush hx dX11_comesNow_207 (by decide) ?_
        refine V_aload_0 hx dX11_comesNow_209 ?_
        refine V_iload_1 hx dX11_comesNow_210 ?_
        refine V_iconst hx dX11_comesNow_211 ?_
        refine V_v2Q hx el ed (c_X11_setOf hN hF (by omega)) myX11_setOf mlX11_92 dX11_comesNow_212 ⟨_, rfl, rfl⟩ (k49 hN) (by decide) (by omega) rfl (by first | exact Nat.le_of_ble_eq_true rfl | simp [vI, vL, vR_cat, Value.category]) (fun r212 => ?_)
        (try simp only [up_s, up_c, up_row, up_k, ne_eq, Int.reduceEq, not_false_eq_true] at r212 ⊢)
        refine V_v3N hx el ed (c_X11_puts hN hF (by omega) (by omega)) myX11_puts mlX11_114 dX11_comesNow_215 ⟨_, rfl, rfl⟩ (k49 hN) (by decide) (by omega) rfl (by first | exact Nat.le_of_ble_eq_true rfl | simp [vI, vL, vR_cat, Value.category]) (fun N1 I1 ⟨eN, eI, hF⟩ => ?_)
        subst eN; subst eI
        refine V_aload_0 hx dX11_comesNow_218 ?_
        refine V_iload_3 hx dX11_comesNow_219 ?_
        refine V_bipush hx dX11_comesNow_220 (by decide) ?_
        refine V_iconst hx dX11_comesNow_222 ?_
        refine V_v3N hx el ed (c_X11_puts hN hF (by omega) (by omega)) myX11_puts mlX11_114 dX11_comesNow_223 ⟨_, rfl, rfl⟩ (k49 hN) (by decide) (by omega) rfl (by first | exact Nat.le_of_ble_eq_true rfl | simp [vI, vL, vR_cat, Value.category]) (fun N1 I1 ⟨eN, eI, hF⟩ => ?_)
        subst eN; subst eI
        refine V_aload_0 hx dX11_comesNow_226 ?_
        refine V_iload_3 hx dX11_comesNow_227 ?_
        refine V_bipush hx dX11_comesNow_228 (by decide) ?_
        refine V_bipush hx dX11_comesNow_230 (by decide) ?_
        refine V_v3N hx el ed (c_X11_puts hN hF (by omega) (by omega)) myX11_puts mlX11_114 dX11_comesNow_232 ⟨_, rfl, rfl⟩ (k49 hN) (by decide) (by omega) rfl (by first | exact Nat.le_of_ble_eq_true rfl | simp [vI, vL, vR_cat, Value.category]) (fun N1 I1 ⟨eN, eI, hF⟩ => ?_)
        subst eN; subst eI
        refine V_aload_0 hx dX11_comesNow_235 ?_
        refine V_iload_3 hx dX11_comesNow_236 ?_
        refine V_bipush hx dX11_comesNow_237 (by decide) ?_
        refine V_bipush hx dX11_comesNow_239 (by decide) ?_
        refine V_v3N hx el ed (c_X11_puts hN hF (by omega) (by omega)) myX11_puts mlX11_114 dX11_comesNow_241 ⟨_, rfl, rfl⟩ (k49 hN) (by decide) (by omega) rfl (by first | exact Nat.le_of_ble_eq_true rfl | simp [vI, vL, vR_cat, Value.category]) (fun N1 I1 ⟨eN, eI, hF⟩ => ?_)
        subst eN; subst eI
        refine V_aload_0 hx dX11_comesNow_244 ?_
        refine V_iload_3 hx dX11_comesNow_245 ?_
        refine V_bipush hx dX11_comesNow_246 (by decide) ?_
        refine V_iconst hx dX11_comesNow_248 ?_
        refine V_v3N hx el ed (c_X11_puts hN hF (by omega) (by omega)) myX11_puts mlX11_114 dX11_comesNow_249 ⟨_, rfl, rfl⟩ (k49 hN) (by decide) (by omega) rfl (by first | exact Nat.le_of_ble_eq_true rfl | simp [vI, vL, vR_cat, Value.category]) (fun N1 I1 ⟨eN, eI, hF⟩ => ?_)
        subst eN; subst eI
        refine V_aload_0 hx dX11_comesNow_252 ?_
        refine V_getRe hx flX11_19 dX11_comesNow_253 rfl (k49 hN) (hF.1 49 3 53 rfl) ?_
        refine V_iload_1 hx dX11_comesNow_256 ?_
        refine V_dup2 hx dX11_comesNow_257 ?_
        refine V_ialoadx hx hF dX11_comesNow_258 (k53 hN) (by decide) (by omega) (fun r258 => ?_)
        (try simp only [up_s, up_c, up_row, up_k, ne_eq, Int.reduceEq, not_false_eq_true] at r258 ⊢)
        refine V_iconst hx dX11_comesNow_259 ?_
        refine V_iadd hx dX11_comesNow_260 ?_
        refine V_iastorex hx hF dX11_comesNow_261 (k53 hN) (by decide) (by omega) (fx_none rfl _) (by omega) (Or.inl (by decide)) (fun hF => ?_)
        refine V_drop_4 ?_
        exact J262 hF
  · refine V_aload_0 hx dX11_comesNow_33 ?_
    refine V_getRe hx flX11_13 dX11_comesNow_34 rfl (k49 hN) (hF.1 49 1 51 rfl) ?_
    refine V_iload_1 hx dX11_comesNow_37 ?_
    refine V_ialoadx hx hF dX11_comesNow_38 (k51 hN) (by decide) (by omega) (fun r38 => ?_)
    (try simp only [up_s, up_c, up_row, up_k, ne_eq, Int.reduceEq, not_false_eq_true] at r38 ⊢)
    refine V_goto (tgt := 46) hx dX11_comesNow_39 (by decide) ?_
    refine V_topI (cif (I 49 8 < I 51 s) (I 51 s) (I 49 8)) (by first | rw [cif_t (by omega)] | rw [cif_f (by omega)]) ?_
    have hcE : 0 ≤ cif (I 49 8 < I 51 s) (I 51 s) (I 49 8) ∧ cif (I 49 8 < I 51 s) (I 51 s) (I 49 8) ≤ 1584000 := by
      by_cases q : I 49 8 < I 51 s
      · rw [cif_t q]; omega
      · rw [cif_f q]; omega
    refine V_bipush hx dX11_comesNow_46 (by decide) ?_
    refine V_iload_2 hx dX11_comesNow_48 ?_
    refine V_imul hx dX11_comesNow_49 ?_
    refine V_aload_0 hx dX11_comesNow_50 ?_
    refine V_iload_1 hx dX11_comesNow_51 ?_
    refine V_iconst hx dX11_comesNow_52 ?_
    refine V_v2Q hx el ed (c_X11_setOf hN hF (by omega)) myX11_setOf mlX11_92 dX11_comesNow_53 ⟨_, rfl, rfl⟩ (k49 hN) (by decide) (by omega) rfl (by first | exact Nat.le_of_ble_eq_true rfl | simp [vI, vL, vR_cat, Value.category]) (fun r53 => ?_)
    (try simp only [up_s, up_c, up_row, up_k, ne_eq, Int.reduceEq, not_false_eq_true] at r53 ⊢)
    refine V_idiv hx dX11_comesNow_56 (by omega) (by omega) ?_
    refine V_iadd hx dX11_comesNow_57 ?_
    have hdv : 0 ≤ 16 * ln / I 50 (7 * s + 1) ∧ 16 * ln / I 50 (7 * s + 1) ≤ 16 * ln := ⟨Int.ediv_nonneg (by omega) (by omega), Int.ediv_le_self _ (by omega)⟩
    refine V_iastorex hx hF dX11_comesNow_58 (k51 hN) (by decide) (by omega) (fx_none rfl _) (by omega) (Or.inl (by decide)) (fun hF => ?_)
    refine V_aload_0 hx dX11_comesNow_59 ?_
    refine V_getRe hx flX11_19 dX11_comesNow_60 rfl (k49 hN) (hF.1 49 3 53 rfl) ?_
    refine V_iload_1 hx dX11_comesNow_63 ?_
    refine V_ialoadx hx hF dX11_comesNow_64 (k53 hN) (by decide) (by omega) (fun r64 => ?_)
    (try simp only [up_s, up_c, up_row, up_k, ne_eq, Int.reduceEq, not_false_eq_true] at r64 ⊢)
    refine V_if_ne (tgt := 75) hx dX11_comesNow_65 (by decide) (by omega) (fun h65 => ?_) (fun h65 => ?_)
    · refine V_aload_0 hx dX11_comesNow_75 ?_
      refine V_getRe hx flX11_16 dX11_comesNow_76 rfl (k49 hN) (hF.1 49 2 52 rfl) ?_
      refine V_iload_1 hx dX11_comesNow_79 ?_
      refine V_ialoadx hx hF dX11_comesNow_80 (k52 hN) (by decide) (by omega) (fun r80 => ?_)
      (try simp only [up_s, up_c, up_row, up_k, ne_eq, Int.reduceEq, not_false_eq_true] at r80 ⊢)
      refine V_aload_0 hx dX11_comesNow_81 ?_
      refine V_iload_1 hx dX11_comesNow_82 ?_
      refine V_iconst hx dX11_comesNow_83 ?_
      refine V_v2Q hx el ed (c_X11_setOf hN hF (by omega)) myX11_setOf mlX11_92 dX11_comesNow_84 ⟨_, rfl, rfl⟩ (k49 hN) (by decide) (by omega) rfl (by first | exact Nat.le_of_ble_eq_true rfl | simp [vI, vL, vR_cat, Value.category]) (fun r84 => ?_)
      (try simp only [up_s, up_c, up_row, up_k, ne_eq, Int.reduceEq, not_false_eq_true] at r84 ⊢)
      refine V_iadd hx dX11_comesNow_87 ?_
      refine V_topI (nGate0 I s) (by unfold nGate0; first | rw [cif_t (by omega)] | rw [cif_f (by omega)]) ?_
      have hg0 : 0 ≤ nGate0 I s ∧ nGate0 I s ≤ 300000 := by
        unfold nGate0
        by_cases q : I 53 s = 0
        · rw [cif_t q]; omega
        · rw [cif_f q]; omega
      refine V_istore_4 hx (by first | exact nc_I | exact nc_R | exact nc_n) dX11_comesNow_88 ?_
      refine V_aload_0 hx dX11_comesNow_90 ?_
      refine V_getRe hx flX11_16 dX11_comesNow_91 rfl (k49 hN) (hF.1 49 2 52 rfl) ?_
      refine V_iload_1 hx dX11_comesNow_94 ?_
      refine V_iload_4 hx dX11_comesNow_95 ?_
      refine V_aload_0 hx dX11_comesNow_97 ?_
      refine V_getIx 7 hx hF flX11_111 dX11_comesNow_98 rfl rfl (k49 hN) (fun r98 => ?_)
      (try simp only [up_s, up_c, up_row, up_k, ne_eq, Int.reduceEq, not_false_eq_true] at r98 ⊢)
      refine V_icmp_le (tgt := 109) hx dX11_comesNow_101 (by decide) (by omega) (by omega) (fun h101 => ?_) (fun h101 => ?_)
      · refine V_aload_0 hx dX11_comesNow_109 ?_
        refine V_getIx 7 hx hF flX11_111 dX11_comesNow_110 rfl rfl (k49 hN) (fun r110 => ?_)
        (try simp only [up_s, up_c, up_row, up_k, ne_eq, Int.reduceEq, not_false_eq_true] at r110 ⊢)
        refine V_topI (nGate I s) (by unfold nGate; first | rw [cif_t (by omega)] | rw [cif_f (by omega)]) ?_
        have hg1 : 0 ≤ nGate I s ∧ nGate I s ≤ 300000 := by
          unfold nGate
          by_cases q : I 49 7 < nGate0 I s
          · rw [cif_t q]; omega
          · rw [cif_f q]; omega
        refine V_iastorex hx hF dX11_comesNow_113 (k52 hN) (by decide) (by omega) (fx_none rfl _) (by omega) (Or.inl (by decide)) (fun hF => ?_)
        refine V_aload_0 hx dX11_comesNow_114 ?_
        refine V_iload_3 hx dX11_comesNow_115 ?_
        refine V_iconst hx dX11_comesNow_116 ?_
        refine V_aload_0 hx dX11_comesNow_117 ?_
        refine V_iload_1 hx dX11_comesNow_118 ?_
        refine V_iconst hx dX11_comesNow_119 ?_
        refine V_v2Q hx el ed (c_X11_setOf hN hF (by omega)) myX11_setOf mlX11_92 dX11_comesNow_120 ⟨_, rfl, rfl⟩ (k49 hN) (by decide) (by omega) rfl (by first | exact Nat.le_of_ble_eq_true rfl | simp [vI, vL, vR_cat, Value.category]) (fun r120 => ?_)
        (try simp only [up_s, up_c, up_row, up_k, ne_eq, Int.reduceEq, not_false_eq_true] at r120 ⊢)
        refine V_v3N hx el ed (c_X11_puts hN hF (by omega) (by omega)) myX11_puts mlX11_114 dX11_comesNow_123 ⟨_, rfl, rfl⟩ (k49 hN) (by decide) (by omega) rfl (by first | exact Nat.le_of_ble_eq_true rfl | simp [vI, vL, vR_cat, Value.category]) (fun N1 I1 ⟨eN, eI, hF⟩ => ?_)
        subst eN; subst eI
        refine V_aload_0 hx dX11_comesNow_126 ?_
        refine V_iload_3 hx dX11_comesNow_127 ?_
        refine V_iconst hx dX11_comesNow_128 ?_
        refine V_iload_2 hx dX11_comesNow_129 ?_
        refine V_v3N hx el ed (c_X11_puts hN hF (by omega) (by omega)) myX11_puts mlX11_114 dX11_comesNow_130 ⟨_, rfl, rfl⟩ (k49 hN) (by decide) (by omega) rfl (by first | exact Nat.le_of_ble_eq_true rfl | simp [vI, vL, vR_cat, Value.category]) (fun N1 I1 ⟨eN, eI, hF⟩ => ?_)
        subst eN; subst eI
        refine V_aload_0 hx dX11_comesNow_133 ?_
        refine V_iload_3 hx dX11_comesNow_134 ?_
        refine V_iconst hx dX11_comesNow_135 ?_
        refine V_aload_0 hx dX11_comesNow_136 ?_
        refine V_getIx 7 hx hF flX11_111 dX11_comesNow_137 rfl rfl (k49 hN) (fun r137 => ?_)
        (try simp only [up_s, up_c, up_row, up_k, ne_eq, Int.reduceEq, not_false_eq_true] at r137 ⊢)
        refine V_v3N hx el ed (c_X11_puts hN hF (by omega) (by omega)) myX11_puts mlX11_114 dX11_comesNow_140 ⟨_, rfl, rfl⟩ (k49 hN) (by decide) (by omega) rfl (by first | exact Nat.le_of_ble_eq_true rfl | simp [vI, vL, vR_cat, Value.category]) (fun N1 I1 ⟨eN, eI, hF⟩ => ?_)
        subst eN; subst eI
        refine V_aload_0 hx dX11_comesNow_143 ?_
        refine V_iload_3 hx dX11_comesNow_144 ?_
        refine V_iconst hx dX11_comesNow_145 ?_
        refine V_aload_0 hx dX11_comesNow_146 ?_
        refine V_getIx 7 hx hF flX11_111 dX11_comesNow_147 rfl rfl (k49 hN) (fun r147 => ?_)
        (try simp only [up_s, up_c, up_row, up_k, ne_eq, Int.reduceEq, not_false_eq_true] at r147 ⊢)
        refine V_aload_0 hx dX11_comesNow_150 ?_
        refine V_iload_1 hx dX11_comesNow_151 ?_
        refine V_iconst hx dX11_comesNow_152 ?_
        refine V_v2Q hx el ed (c_X11_setOf hN hF (by omega)) myX11_setOf mlX11_92 dX11_comesNow_153 ⟨_, rfl, rfl⟩ (k49 hN) (by decide) (by omega) rfl (by first | exact Nat.le_of_ble_eq_true rfl | simp [vI, vL, vR_cat, Value.category]) (fun r153 => ?_)
        (try simp only [up_s, up_c, up_row, up_k, ne_eq, Int.reduceEq, not_false_eq_true] at r153 ⊢)
        refine V_iadd hx dX11_comesNow_156 ?_
        refine V_v3N hx el ed (c_X11_puts hN hF (by omega) (by omega)) myX11_puts mlX11_114 dX11_comesNow_157 ⟨_, rfl, rfl⟩ (k49 hN) (by decide) (by omega) rfl (by first | exact Nat.le_of_ble_eq_true rfl | simp [vI, vL, vR_cat, Value.category]) (fun N1 I1 ⟨eN, eI, hF⟩ => ?_)
        subst eN; subst eI
        refine V_aload_0 hx dX11_comesNow_160 ?_
        refine V_iload_3 hx dX11_comesNow_161 ?_
        refine V_iconst hx dX11_comesNow_162 ?_
        refine V_aload_0 hx dX11_comesNow_163 ?_
        refine V_getRe hx flX11_19 dX11_comesNow_164 rfl (k49 hN) (hF.1 49 3 53 rfl) ?_
        refine V_iload_1 hx dX11_comesNow_167 ?_
        refine V_ialoadx hx hF dX11_comesNow_168 (k53 hN) (by decide) (by omega) (fun r168 => ?_)
        (try simp only [up_s, up_c, up_row, up_k, ne_eq, Int.reduceEq, not_false_eq_true] at r168 ⊢)
        refine V_v3N hx el ed (c_X11_puts hN hF (by omega) (by omega)) myX11_puts mlX11_114 dX11_comesNow_169 ⟨_, rfl, rfl⟩ (k49 hN) (by decide) (by omega) rfl (by first | exact Nat.le_of_ble_eq_true rfl | simp [vI, vL, vR_cat, Value.category]) (fun N1 I1 ⟨eN, eI, hF⟩ => ?_)
        subst eN; subst eI
        refine V_aload_0 hx dX11_comesNow_172 ?_
        refine V_iload_3 hx dX11_comesNow_173 ?_
        refine V_iconst hx dX11_comesNow_174 ?_
        refine V_aload_0 hx dX11_comesNow_175 ?_
        refine V_getRe hx flX11_13 dX11_comesNow_176 rfl (k49 hN) (hF.1 49 1 51 rfl) ?_
        refine V_iload_1 hx dX11_comesNow_179 ?_
        refine V_ialoadx hx hF dX11_comesNow_180 (k51 hN) (by decide) (by omega) (fun r180 => ?_)
        (try simp only [up_s, up_c, up_row, up_k, ne_eq, Int.reduceEq, not_false_eq_true] at r180 ⊢)
        refine V_v3N hx el ed (c_X11_puts hN hF (by omega) (by omega)) myX11_puts mlX11_114 dX11_comesNow_181 ⟨_, rfl, rfl⟩ (k49 hN) (by decide) (by omega) rfl (by first | exact Nat.le_of_ble_eq_true rfl | simp [vI, vL, vR_cat, Value.category]) (fun N1 I1 ⟨eN, eI, hF⟩ => ?_)
        subst eN; subst eI
        refine V_aload_0 hx dX11_comesNow_184 ?_
        refine V_iload_3 hx dX11_comesNow_185 ?_
        refine V_bipush hx dX11_comesNow_186 (by decide) ?_
        refine V_iload_1 hx dX11_comesNow_188 ?_
        refine V_v3N hx el ed (c_X11_puts hN hF (by omega) (by omega)) myX11_puts mlX11_114 dX11_comesNow_189 ⟨_, rfl, rfl⟩ (k49 hN) (by decide) (by omega) rfl (by first | exact Nat.le_of_ble_eq_true rfl | simp [vI, vL, vR_cat, Value.category]) (fun N1 I1 ⟨eN, eI, hF⟩ => ?_)
        subst eN; subst eI
        refine V_aload_0 hx dX11_comesNow_192 ?_
        refine V_iload_3 hx dX11_comesNow_193 ?_
        refine V_bipush hx dX11_comesNow_194 (by decide) ?_
        refine V_aload_0 hx dX11_comesNow_196 ?_
        refine V_getRe hx flX11_16 dX11_comesNow_197 rfl (k49 hN) (hF.1 49 2 52 rfl) ?_
        refine V_iload_1 hx dX11_comesNow_200 ?_
        refine V_ialoadx hx hF dX11_comesNow_201 (k52 hN) (by decide) (by omega) (fun r201 => ?_)
        (try simp only [up_s, up_c, up_row, up_k, ne_eq, Int.reduceEq, not_false_eq_true] at r201 ⊢)
        refine V_v3N hx el ed (c_X11_puts hN hF (by omega) (by omega)) myX11_puts mlX11_114 dX11_comesNow_202 ⟨_, rfl, rfl⟩ (k49 hN) (by decide) (by omega) rfl (by first | exact Nat.le_of_ble_eq_true rfl | simp [vI, vL, vR_cat, Value.category]) (fun N1 I1 ⟨eN, eI, hF⟩ => ?_)
        subst eN; subst eI
        refine V_aload_0 hx dX11_comesNow_205 ?_
        refine V_iload_3 hx dX11_comesNow_206 ?_
        refine V_bipush hx dX11_comesNow_207 (by decide) ?_
        refine V_aload_0 hx dX11_comesNow_209 ?_
        refine V_iload_1 hx dX11_comesNow_210 ?_
        refine V_iconst hx dX11_comesNow_211 ?_
        refine V_v2Q hx el ed (c_X11_setOf hN hF (by omega)) myX11_setOf mlX11_92 dX11_comesNow_212 ⟨_, rfl, rfl⟩ (k49 hN) (by decide) (by omega) rfl (by first | exact Nat.le_of_ble_eq_true rfl | simp [vI, vL, vR_cat, Value.category]) (fun r212 => ?_)
        (try simp only [up_s, up_c, up_row, up_k, ne_eq, Int.reduceEq, not_false_eq_true] at r212 ⊢)
        refine V_v3N hx el ed (c_X11_puts hN hF (by omega) (by omega)) myX11_puts mlX11_114 dX11_comesNow_215 ⟨_, rfl, rfl⟩ (k49 hN) (by decide) (by omega) rfl (by first | exact Nat.le_of_ble_eq_true rfl | simp [vI, vL, vR_cat, Value.category]) (fun N1 I1 ⟨eN, eI, hF⟩ => ?_)
        subst eN; subst eI
        refine V_aload_0 hx dX11_comesNow_218 ?_
        refine V_iload_3 hx dX11_comesNow_219 ?_
        refine V_bipush hx dX11_comesNow_220 (by decide) ?_
        refine V_iconst hx dX11_comesNow_222 ?_
        refine V_v3N hx el ed (c_X11_puts hN hF (by omega) (by omega)) myX11_puts mlX11_114 dX11_comesNow_223 ⟨_, rfl, rfl⟩ (k49 hN) (by decide) (by omega) rfl (by first | exact Nat.le_of_ble_eq_true rfl | simp [vI, vL, vR_cat, Value.category]) (fun N1 I1 ⟨eN, eI, hF⟩ => ?_)
        subst eN; subst eI
        refine V_aload_0 hx dX11_comesNow_226 ?_
        refine V_iload_3 hx dX11_comesNow_227 ?_
        refine V_bipush hx dX11_comesNow_228 (by decide) ?_
        refine V_bipush hx dX11_comesNow_230 (by decide) ?_
        refine V_v3N hx el ed (c_X11_puts hN hF (by omega) (by omega)) myX11_puts mlX11_114 dX11_comesNow_232 ⟨_, rfl, rfl⟩ (k49 hN) (by decide) (by omega) rfl (by first | exact Nat.le_of_ble_eq_true rfl | simp [vI, vL, vR_cat, Value.category]) (fun N1 I1 ⟨eN, eI, hF⟩ => ?_)
        subst eN; subst eI
        refine V_aload_0 hx dX11_comesNow_235 ?_
        refine V_iload_3 hx dX11_comesNow_236 ?_
        refine V_bipush hx dX11_comesNow_237 (by decide) ?_
        refine V_bipush hx dX11_comesNow_239 (by decide) ?_
        refine V_v3N hx el ed (c_X11_puts hN hF (by omega) (by omega)) myX11_puts mlX11_114 dX11_comesNow_241 ⟨_, rfl, rfl⟩ (k49 hN) (by decide) (by omega) rfl (by first | exact Nat.le_of_ble_eq_true rfl | simp [vI, vL, vR_cat, Value.category]) (fun N1 I1 ⟨eN, eI, hF⟩ => ?_)
        subst eN; subst eI
        refine V_aload_0 hx dX11_comesNow_244 ?_
        refine V_iload_3 hx dX11_comesNow_245 ?_
        refine V_bipush hx dX11_comesNow_246 (by decide) ?_
        refine V_iconst hx dX11_comesNow_248 ?_
        refine V_v3N hx el ed (c_X11_puts hN hF (by omega) (by omega)) myX11_puts mlX11_114 dX11_comesNow_249 ⟨_, rfl, rfl⟩ (k49 hN) (by decide) (by omega) rfl (by first | exact Nat.le_of_ble_eq_true rfl | simp [vI, vL, vR_cat, Value.category]) (fun N1 I1 ⟨eN, eI, hF⟩ => ?_)
        subst eN; subst eI
        refine V_aload_0 hx dX11_comesNow_252 ?_
        refine V_getRe hx flX11_19 dX11_comesNow_253 rfl (k49 hN) (hF.1 49 3 53 rfl) ?_
        refine V_iload_1 hx dX11_comesNow_256 ?_
        refine V_dup2 hx dX11_comesNow_257 ?_
        refine V_ialoadx hx hF dX11_comesNow_258 (k53 hN) (by decide) (by omega) (fun r258 => ?_)
        (try simp only [up_s, up_c, up_row, up_k, ne_eq, Int.reduceEq, not_false_eq_true] at r258 ⊢)
        refine V_iconst hx dX11_comesNow_259 ?_
        refine V_iadd hx dX11_comesNow_260 ?_
        refine V_iastorex hx hF dX11_comesNow_261 (k53 hN) (by decide) (by omega) (fx_none rfl _) (by omega) (Or.inl (by decide)) (fun hF => ?_)
        refine V_drop_4 ?_
        exact J262 hF
      · refine V_iload_4 hx dX11_comesNow_104 ?_
        refine V_goto (tgt := 113) hx dX11_comesNow_106 (by decide) ?_
        refine V_topI (nGate I s) (by unfold nGate; first | rw [cif_t (by omega)] | rw [cif_f (by omega)]) ?_
        have hg1 : 0 ≤ nGate I s ∧ nGate I s ≤ 300000 := by
          unfold nGate
          by_cases q : I 49 7 < nGate0 I s
          · rw [cif_t q]; omega
          · rw [cif_f q]; omega
        refine V_iastorex hx hF dX11_comesNow_113 (k52 hN) (by decide) (by omega) (fx_none rfl _) (by omega) (Or.inl (by decide)) (fun hF => ?_)
        refine V_aload_0 hx dX11_comesNow_114 ?_
        refine V_iload_3 hx dX11_comesNow_115 ?_
        refine V_iconst hx dX11_comesNow_116 ?_
        refine V_aload_0 hx dX11_comesNow_117 ?_
        refine V_iload_1 hx dX11_comesNow_118 ?_
        refine V_iconst hx dX11_comesNow_119 ?_
        refine V_v2Q hx el ed (c_X11_setOf hN hF (by omega)) myX11_setOf mlX11_92 dX11_comesNow_120 ⟨_, rfl, rfl⟩ (k49 hN) (by decide) (by omega) rfl (by first | exact Nat.le_of_ble_eq_true rfl | simp [vI, vL, vR_cat, Value.category]) (fun r120 => ?_)
        (try simp only [up_s, up_c, up_row, up_k, ne_eq, Int.reduceEq, not_false_eq_true] at r120 ⊢)
        refine V_v3N hx el ed (c_X11_puts hN hF (by omega) (by omega)) myX11_puts mlX11_114 dX11_comesNow_123 ⟨_, rfl, rfl⟩ (k49 hN) (by decide) (by omega) rfl (by first | exact Nat.le_of_ble_eq_true rfl | simp [vI, vL, vR_cat, Value.category]) (fun N1 I1 ⟨eN, eI, hF⟩ => ?_)
        subst eN; subst eI
        refine V_aload_0 hx dX11_comesNow_126 ?_
        refine V_iload_3 hx dX11_comesNow_127 ?_
        refine V_iconst hx dX11_comesNow_128 ?_
        refine V_iload_2 hx dX11_comesNow_129 ?_
        refine V_v3N hx el ed (c_X11_puts hN hF (by omega) (by omega)) myX11_puts mlX11_114 dX11_comesNow_130 ⟨_, rfl, rfl⟩ (k49 hN) (by decide) (by omega) rfl (by first | exact Nat.le_of_ble_eq_true rfl | simp [vI, vL, vR_cat, Value.category]) (fun N1 I1 ⟨eN, eI, hF⟩ => ?_)
        subst eN; subst eI
        refine V_aload_0 hx dX11_comesNow_133 ?_
        refine V_iload_3 hx dX11_comesNow_134 ?_
        refine V_iconst hx dX11_comesNow_135 ?_
        refine V_aload_0 hx dX11_comesNow_136 ?_
        refine V_getIx 7 hx hF flX11_111 dX11_comesNow_137 rfl rfl (k49 hN) (fun r137 => ?_)
        (try simp only [up_s, up_c, up_row, up_k, ne_eq, Int.reduceEq, not_false_eq_true] at r137 ⊢)
        refine V_v3N hx el ed (c_X11_puts hN hF (by omega) (by omega)) myX11_puts mlX11_114 dX11_comesNow_140 ⟨_, rfl, rfl⟩ (k49 hN) (by decide) (by omega) rfl (by first | exact Nat.le_of_ble_eq_true rfl | simp [vI, vL, vR_cat, Value.category]) (fun N1 I1 ⟨eN, eI, hF⟩ => ?_)
        subst eN; subst eI
        refine V_aload_0 hx dX11_comesNow_143 ?_
        refine V_iload_3 hx dX11_comesNow_144 ?_
        refine V_iconst hx dX11_comesNow_145 ?_
        refine V_aload_0 hx dX11_comesNow_146 ?_
        refine V_getIx 7 hx hF flX11_111 dX11_comesNow_147 rfl rfl (k49 hN) (fun r147 => ?_)
        (try simp only [up_s, up_c, up_row, up_k, ne_eq, Int.reduceEq, not_false_eq_true] at r147 ⊢)
        refine V_aload_0 hx dX11_comesNow_150 ?_
        refine V_iload_1 hx dX11_comesNow_151 ?_
        refine V_iconst hx dX11_comesNow_152 ?_
        refine V_v2Q hx el ed (c_X11_setOf hN hF (by omega)) myX11_setOf mlX11_92 dX11_comesNow_153 ⟨_, rfl, rfl⟩ (k49 hN) (by decide) (by omega) rfl (by first | exact Nat.le_of_ble_eq_true rfl | simp [vI, vL, vR_cat, Value.category]) (fun r153 => ?_)
        (try simp only [up_s, up_c, up_row, up_k, ne_eq, Int.reduceEq, not_false_eq_true] at r153 ⊢)
        refine V_iadd hx dX11_comesNow_156 ?_
        refine V_v3N hx el ed (c_X11_puts hN hF (by omega) (by omega)) myX11_puts mlX11_114 dX11_comesNow_157 ⟨_, rfl, rfl⟩ (k49 hN) (by decide) (by omega) rfl (by first | exact Nat.le_of_ble_eq_true rfl | simp [vI, vL, vR_cat, Value.category]) (fun N1 I1 ⟨eN, eI, hF⟩ => ?_)
        subst eN; subst eI
        refine V_aload_0 hx dX11_comesNow_160 ?_
        refine V_iload_3 hx dX11_comesNow_161 ?_
        refine V_iconst hx dX11_comesNow_162 ?_
        refine V_aload_0 hx dX11_comesNow_163 ?_
        refine V_getRe hx flX11_19 dX11_comesNow_164 rfl (k49 hN) (hF.1 49 3 53 rfl) ?_
        refine V_iload_1 hx dX11_comesNow_167 ?_
        refine V_ialoadx hx hF dX11_comesNow_168 (k53 hN) (by decide) (by omega) (fun r168 => ?_)
        (try simp only [up_s, up_c, up_row, up_k, ne_eq, Int.reduceEq, not_false_eq_true] at r168 ⊢)
        refine V_v3N hx el ed (c_X11_puts hN hF (by omega) (by omega)) myX11_puts mlX11_114 dX11_comesNow_169 ⟨_, rfl, rfl⟩ (k49 hN) (by decide) (by omega) rfl (by first | exact Nat.le_of_ble_eq_true rfl | simp [vI, vL, vR_cat, Value.category]) (fun N1 I1 ⟨eN, eI, hF⟩ => ?_)
        subst eN; subst eI
        refine V_aload_0 hx dX11_comesNow_172 ?_
        refine V_iload_3 hx dX11_comesNow_173 ?_
        refine V_iconst hx dX11_comesNow_174 ?_
        refine V_aload_0 hx dX11_comesNow_175 ?_
        refine V_getRe hx flX11_13 dX11_comesNow_176 rfl (k49 hN) (hF.1 49 1 51 rfl) ?_
        refine V_iload_1 hx dX11_comesNow_179 ?_
        refine V_ialoadx hx hF dX11_comesNow_180 (k51 hN) (by decide) (by omega) (fun r180 => ?_)
        (try simp only [up_s, up_c, up_row, up_k, ne_eq, Int.reduceEq, not_false_eq_true] at r180 ⊢)
        refine V_v3N hx el ed (c_X11_puts hN hF (by omega) (by omega)) myX11_puts mlX11_114 dX11_comesNow_181 ⟨_, rfl, rfl⟩ (k49 hN) (by decide) (by omega) rfl (by first | exact Nat.le_of_ble_eq_true rfl | simp [vI, vL, vR_cat, Value.category]) (fun N1 I1 ⟨eN, eI, hF⟩ => ?_)
        subst eN; subst eI
        refine V_aload_0 hx dX11_comesNow_184 ?_
        refine V_iload_3 hx dX11_comesNow_185 ?_
        refine V_bipush hx dX11_comesNow_186 (by decide) ?_
        refine V_iload_1 hx dX11_comesNow_188 ?_
        refine V_v3N hx el ed (c_X11_puts hN hF (by omega) (by omega)) myX11_puts mlX11_114 dX11_comesNow_189 ⟨_, rfl, rfl⟩ (k49 hN) (by decide) (by omega) rfl (by first | exact Nat.le_of_ble_eq_true rfl | simp [vI, vL, vR_cat, Value.category]) (fun N1 I1 ⟨eN, eI, hF⟩ => ?_)
        subst eN; subst eI
        refine V_aload_0 hx dX11_comesNow_192 ?_
        refine V_iload_3 hx dX11_comesNow_193 ?_
        refine V_bipush hx dX11_comesNow_194 (by decide) ?_
        refine V_aload_0 hx dX11_comesNow_196 ?_
        refine V_getRe hx flX11_16 dX11_comesNow_197 rfl (k49 hN) (hF.1 49 2 52 rfl) ?_
        refine V_iload_1 hx dX11_comesNow_200 ?_
        refine V_ialoadx hx hF dX11_comesNow_201 (k52 hN) (by decide) (by omega) (fun r201 => ?_)
        (try simp only [up_s, up_c, up_row, up_k, ne_eq, Int.reduceEq, not_false_eq_true] at r201 ⊢)
        refine V_v3N hx el ed (c_X11_puts hN hF (by omega) (by omega)) myX11_puts mlX11_114 dX11_comesNow_202 ⟨_, rfl, rfl⟩ (k49 hN) (by decide) (by omega) rfl (by first | exact Nat.le_of_ble_eq_true rfl | simp [vI, vL, vR_cat, Value.category]) (fun N1 I1 ⟨eN, eI, hF⟩ => ?_)
        subst eN; subst eI
        refine V_aload_0 hx dX11_comesNow_205 ?_
        refine V_iload_3 hx dX11_comesNow_206 ?_
        refine V_bipush hx dX11_comesNow_207 (by decide) ?_
        refine V_aload_0 hx dX11_comesNow_209 ?_
        refine V_iload_1 hx dX11_comesNow_210 ?_
        refine V_iconst hx dX11_comesNow_211 ?_
        refine V_v2Q hx el ed (c_X11_setOf hN hF (by omega)) myX11_setOf mlX11_92 dX11_comesNow_212 ⟨_, rfl, rfl⟩ (k49 hN) (by decide) (by omega) rfl (by first | exact Nat.le_of_ble_eq_true rfl | simp [vI, vL, vR_cat, Value.category]) (fun r212 => ?_)
        (try simp only [up_s, up_c, up_row, up_k, ne_eq, Int.reduceEq, not_false_eq_true] at r212 ⊢)
        refine V_v3N hx el ed (c_X11_puts hN hF (by omega) (by omega)) myX11_puts mlX11_114 dX11_comesNow_215 ⟨_, rfl, rfl⟩ (k49 hN) (by decide) (by omega) rfl (by first | exact Nat.le_of_ble_eq_true rfl | simp [vI, vL, vR_cat, Value.category]) (fun N1 I1 ⟨eN, eI, hF⟩ => ?_)
        subst eN; subst eI
        refine V_aload_0 hx dX11_comesNow_218 ?_
        refine V_iload_3 hx dX11_comesNow_219 ?_
        refine V_bipush hx dX11_comesNow_220 (by decide) ?_
        refine V_iconst hx dX11_comesNow_222 ?_
        refine V_v3N hx el ed (c_X11_puts hN hF (by omega) (by omega)) myX11_puts mlX11_114 dX11_comesNow_223 ⟨_, rfl, rfl⟩ (k49 hN) (by decide) (by omega) rfl (by first | exact Nat.le_of_ble_eq_true rfl | simp [vI, vL, vR_cat, Value.category]) (fun N1 I1 ⟨eN, eI, hF⟩ => ?_)
        subst eN; subst eI
        refine V_aload_0 hx dX11_comesNow_226 ?_
        refine V_iload_3 hx dX11_comesNow_227 ?_
        refine V_bipush hx dX11_comesNow_228 (by decide) ?_
        refine V_bipush hx dX11_comesNow_230 (by decide) ?_
        refine V_v3N hx el ed (c_X11_puts hN hF (by omega) (by omega)) myX11_puts mlX11_114 dX11_comesNow_232 ⟨_, rfl, rfl⟩ (k49 hN) (by decide) (by omega) rfl (by first | exact Nat.le_of_ble_eq_true rfl | simp [vI, vL, vR_cat, Value.category]) (fun N1 I1 ⟨eN, eI, hF⟩ => ?_)
        subst eN; subst eI
        refine V_aload_0 hx dX11_comesNow_235 ?_
        refine V_iload_3 hx dX11_comesNow_236 ?_
        refine V_bipush hx dX11_comesNow_237 (by decide) ?_
        refine V_bipush hx dX11_comesNow_239 (by decide) ?_
        refine V_v3N hx el ed (c_X11_puts hN hF (by omega) (by omega)) myX11_puts mlX11_114 dX11_comesNow_241 ⟨_, rfl, rfl⟩ (k49 hN) (by decide) (by omega) rfl (by first | exact Nat.le_of_ble_eq_true rfl | simp [vI, vL, vR_cat, Value.category]) (fun N1 I1 ⟨eN, eI, hF⟩ => ?_)
        subst eN; subst eI
        refine V_aload_0 hx dX11_comesNow_244 ?_
        refine V_iload_3 hx dX11_comesNow_245 ?_
        refine V_bipush hx dX11_comesNow_246 (by decide) ?_
        refine V_iconst hx dX11_comesNow_248 ?_
        refine V_v3N hx el ed (c_X11_puts hN hF (by omega) (by omega)) myX11_puts mlX11_114 dX11_comesNow_249 ⟨_, rfl, rfl⟩ (k49 hN) (by decide) (by omega) rfl (by first | exact Nat.le_of_ble_eq_true rfl | simp [vI, vL, vR_cat, Value.category]) (fun N1 I1 ⟨eN, eI, hF⟩ => ?_)
        subst eN; subst eI
        refine V_aload_0 hx dX11_comesNow_252 ?_
        refine V_getRe hx flX11_19 dX11_comesNow_253 rfl (k49 hN) (hF.1 49 3 53 rfl) ?_
        refine V_iload_1 hx dX11_comesNow_256 ?_
        refine V_dup2 hx dX11_comesNow_257 ?_
        refine V_ialoadx hx hF dX11_comesNow_258 (k53 hN) (by decide) (by omega) (fun r258 => ?_)
        (try simp only [up_s, up_c, up_row, up_k, ne_eq, Int.reduceEq, not_false_eq_true] at r258 ⊢)
        refine V_iconst hx dX11_comesNow_259 ?_
        refine V_iadd hx dX11_comesNow_260 ?_
        refine V_iastorex hx hF dX11_comesNow_261 (k53 hN) (by decide) (by omega) (fx_none rfl _) (by omega) (Or.inl (by decide)) (fun hF => ?_)
        refine V_drop_4 ?_
        exact J262 hF
    · refine V_aload_0 hx dX11_comesNow_68 ?_
      refine V_getIx 7 hx hF flX11_111 dX11_comesNow_69 rfl rfl (k49 hN) (fun r69 => ?_)
      (try simp only [up_s, up_c, up_row, up_k, ne_eq, Int.reduceEq, not_false_eq_true] at r69 ⊢)
      refine V_goto (tgt := 88) hx dX11_comesNow_72 (by decide) ?_
      refine V_topI (nGate0 I s) (by unfold nGate0; first | rw [cif_t (by omega)] | rw [cif_f (by omega)]) ?_
      have hg0 : 0 ≤ nGate0 I s ∧ nGate0 I s ≤ 300000 := by
        unfold nGate0
        by_cases q : I 53 s = 0
        · rw [cif_t q]; omega
        · rw [cif_f q]; omega
      refine V_istore_4 hx (by first | exact nc_I | exact nc_R | exact nc_n) dX11_comesNow_88 ?_
      refine V_aload_0 hx dX11_comesNow_90 ?_
      refine V_getRe hx flX11_16 dX11_comesNow_91 rfl (k49 hN) (hF.1 49 2 52 rfl) ?_
      refine V_iload_1 hx dX11_comesNow_94 ?_
      refine V_iload_4 hx dX11_comesNow_95 ?_
      refine V_aload_0 hx dX11_comesNow_97 ?_
      refine V_getIx 7 hx hF flX11_111 dX11_comesNow_98 rfl rfl (k49 hN) (fun r98 => ?_)
      (try simp only [up_s, up_c, up_row, up_k, ne_eq, Int.reduceEq, not_false_eq_true] at r98 ⊢)
      refine V_icmp_le (tgt := 109) hx dX11_comesNow_101 (by decide) (by omega) (by omega) (fun h101 => ?_) (fun h101 => ?_)
      · refine V_aload_0 hx dX11_comesNow_109 ?_
        refine V_getIx 7 hx hF flX11_111 dX11_comesNow_110 rfl rfl (k49 hN) (fun r110 => ?_)
        (try simp only [up_s, up_c, up_row, up_k, ne_eq, Int.reduceEq, not_false_eq_true] at r110 ⊢)
        refine V_topI (nGate I s) (by unfold nGate; first | rw [cif_t (by omega)] | rw [cif_f (by omega)]) ?_
        have hg1 : 0 ≤ nGate I s ∧ nGate I s ≤ 300000 := by
          unfold nGate
          by_cases q : I 49 7 < nGate0 I s
          · rw [cif_t q]; omega
          · rw [cif_f q]; omega
        refine V_iastorex hx hF dX11_comesNow_113 (k52 hN) (by decide) (by omega) (fx_none rfl _) (by omega) (Or.inl (by decide)) (fun hF => ?_)
        refine V_aload_0 hx dX11_comesNow_114 ?_
        refine V_iload_3 hx dX11_comesNow_115 ?_
        refine V_iconst hx dX11_comesNow_116 ?_
        refine V_aload_0 hx dX11_comesNow_117 ?_
        refine V_iload_1 hx dX11_comesNow_118 ?_
        refine V_iconst hx dX11_comesNow_119 ?_
        refine V_v2Q hx el ed (c_X11_setOf hN hF (by omega)) myX11_setOf mlX11_92 dX11_comesNow_120 ⟨_, rfl, rfl⟩ (k49 hN) (by decide) (by omega) rfl (by first | exact Nat.le_of_ble_eq_true rfl | simp [vI, vL, vR_cat, Value.category]) (fun r120 => ?_)
        (try simp only [up_s, up_c, up_row, up_k, ne_eq, Int.reduceEq, not_false_eq_true] at r120 ⊢)
        refine V_v3N hx el ed (c_X11_puts hN hF (by omega) (by omega)) myX11_puts mlX11_114 dX11_comesNow_123 ⟨_, rfl, rfl⟩ (k49 hN) (by decide) (by omega) rfl (by first | exact Nat.le_of_ble_eq_true rfl | simp [vI, vL, vR_cat, Value.category]) (fun N1 I1 ⟨eN, eI, hF⟩ => ?_)
        subst eN; subst eI
        refine V_aload_0 hx dX11_comesNow_126 ?_
        refine V_iload_3 hx dX11_comesNow_127 ?_
        refine V_iconst hx dX11_comesNow_128 ?_
        refine V_iload_2 hx dX11_comesNow_129 ?_
        refine V_v3N hx el ed (c_X11_puts hN hF (by omega) (by omega)) myX11_puts mlX11_114 dX11_comesNow_130 ⟨_, rfl, rfl⟩ (k49 hN) (by decide) (by omega) rfl (by first | exact Nat.le_of_ble_eq_true rfl | simp [vI, vL, vR_cat, Value.category]) (fun N1 I1 ⟨eN, eI, hF⟩ => ?_)
        subst eN; subst eI
        refine V_aload_0 hx dX11_comesNow_133 ?_
        refine V_iload_3 hx dX11_comesNow_134 ?_
        refine V_iconst hx dX11_comesNow_135 ?_
        refine V_aload_0 hx dX11_comesNow_136 ?_
        refine V_getIx 7 hx hF flX11_111 dX11_comesNow_137 rfl rfl (k49 hN) (fun r137 => ?_)
        (try simp only [up_s, up_c, up_row, up_k, ne_eq, Int.reduceEq, not_false_eq_true] at r137 ⊢)
        refine V_v3N hx el ed (c_X11_puts hN hF (by omega) (by omega)) myX11_puts mlX11_114 dX11_comesNow_140 ⟨_, rfl, rfl⟩ (k49 hN) (by decide) (by omega) rfl (by first | exact Nat.le_of_ble_eq_true rfl | simp [vI, vL, vR_cat, Value.category]) (fun N1 I1 ⟨eN, eI, hF⟩ => ?_)
        subst eN; subst eI
        refine V_aload_0 hx dX11_comesNow_143 ?_
        refine V_iload_3 hx dX11_comesNow_144 ?_
        refine V_iconst hx dX11_comesNow_145 ?_
        refine V_aload_0 hx dX11_comesNow_146 ?_
        refine V_getIx 7 hx hF flX11_111 dX11_comesNow_147 rfl rfl (k49 hN) (fun r147 => ?_)
        (try simp only [up_s, up_c, up_row, up_k, ne_eq, Int.reduceEq, not_false_eq_true] at r147 ⊢)
        refine V_aload_0 hx dX11_comesNow_150 ?_
        refine V_iload_1 hx dX11_comesNow_151 ?_
        refine V_iconst hx dX11_comesNow_152 ?_
        refine V_v2Q hx el ed (c_X11_setOf hN hF (by omega)) myX11_setOf mlX11_92 dX11_comesNow_153 ⟨_, rfl, rfl⟩ (k49 hN) (by decide) (by omega) rfl (by first | exact Nat.le_of_ble_eq_true rfl | simp [vI, vL, vR_cat, Value.category]) (fun r153 => ?_)
        (try simp only [up_s, up_c, up_row, up_k, ne_eq, Int.reduceEq, not_false_eq_true] at r153 ⊢)
        refine V_iadd hx dX11_comesNow_156 ?_
        refine V_v3N hx el ed (c_X11_puts hN hF (by omega) (by omega)) myX11_puts mlX11_114 dX11_comesNow_157 ⟨_, rfl, rfl⟩ (k49 hN) (by decide) (by omega) rfl (by first | exact Nat.le_of_ble_eq_true rfl | simp [vI, vL, vR_cat, Value.category]) (fun N1 I1 ⟨eN, eI, hF⟩ => ?_)
        subst eN; subst eI
        refine V_aload_0 hx dX11_comesNow_160 ?_
        refine V_iload_3 hx dX11_comesNow_161 ?_
        refine V_iconst hx dX11_comesNow_162 ?_
        refine V_aload_0 hx dX11_comesNow_163 ?_
        refine V_getRe hx flX11_19 dX11_comesNow_164 rfl (k49 hN) (hF.1 49 3 53 rfl) ?_
        refine V_iload_1 hx dX11_comesNow_167 ?_
        refine V_ialoadx hx hF dX11_comesNow_168 (k53 hN) (by decide) (by omega) (fun r168 => ?_)
        (try simp only [up_s, up_c, up_row, up_k, ne_eq, Int.reduceEq, not_false_eq_true] at r168 ⊢)
        refine V_v3N hx el ed (c_X11_puts hN hF (by omega) (by omega)) myX11_puts mlX11_114 dX11_comesNow_169 ⟨_, rfl, rfl⟩ (k49 hN) (by decide) (by omega) rfl (by first | exact Nat.le_of_ble_eq_true rfl | simp [vI, vL, vR_cat, Value.category]) (fun N1 I1 ⟨eN, eI, hF⟩ => ?_)
        subst eN; subst eI
        refine V_aload_0 hx dX11_comesNow_172 ?_
        refine V_iload_3 hx dX11_comesNow_173 ?_
        refine V_iconst hx dX11_comesNow_174 ?_
        refine V_aload_0 hx dX11_comesNow_175 ?_
        refine V_getRe hx flX11_13 dX11_comesNow_176 rfl (k49 hN) (hF.1 49 1 51 rfl) ?_
        refine V_iload_1 hx dX11_comesNow_179 ?_
        refine V_ialoadx hx hF dX11_comesNow_180 (k51 hN) (by decide) (by omega) (fun r180 => ?_)
        (try simp only [up_s, up_c, up_row, up_k, ne_eq, Int.reduceEq, not_false_eq_true] at r180 ⊢)
        refine V_v3N hx el ed (c_X11_puts hN hF (by omega) (by omega)) myX11_puts mlX11_114 dX11_comesNow_181 ⟨_, rfl, rfl⟩ (k49 hN) (by decide) (by omega) rfl (by first | exact Nat.le_of_ble_eq_true rfl | simp [vI, vL, vR_cat, Value.category]) (fun N1 I1 ⟨eN, eI, hF⟩ => ?_)
        subst eN; subst eI
        refine V_aload_0 hx dX11_comesNow_184 ?_
        refine V_iload_3 hx dX11_comesNow_185 ?_
        refine V_bipush hx dX11_comesNow_186 (by decide) ?_
        refine V_iload_1 hx dX11_comesNow_188 ?_
        refine V_v3N hx el ed (c_X11_puts hN hF (by omega) (by omega)) myX11_puts mlX11_114 dX11_comesNow_189 ⟨_, rfl, rfl⟩ (k49 hN) (by decide) (by omega) rfl (by first | exact Nat.le_of_ble_eq_true rfl | simp [vI, vL, vR_cat, Value.category]) (fun N1 I1 ⟨eN, eI, hF⟩ => ?_)
        subst eN; subst eI
        refine V_aload_0 hx dX11_comesNow_192 ?_
        refine V_iload_3 hx dX11_comesNow_193 ?_
        refine V_bipush hx dX11_comesNow_194 (by decide) ?_
        refine V_aload_0 hx dX11_comesNow_196 ?_
        refine V_getRe hx flX11_16 dX11_comesNow_197 rfl (k49 hN) (hF.1 49 2 52 rfl) ?_
        refine V_iload_1 hx dX11_comesNow_200 ?_
        refine V_ialoadx hx hF dX11_comesNow_201 (k52 hN) (by decide) (by omega) (fun r201 => ?_)
        (try simp only [up_s, up_c, up_row, up_k, ne_eq, Int.reduceEq, not_false_eq_true] at r201 ⊢)
        refine V_v3N hx el ed (c_X11_puts hN hF (by omega) (by omega)) myX11_puts mlX11_114 dX11_comesNow_202 ⟨_, rfl, rfl⟩ (k49 hN) (by decide) (by omega) rfl (by first | exact Nat.le_of_ble_eq_true rfl | simp [vI, vL, vR_cat, Value.category]) (fun N1 I1 ⟨eN, eI, hF⟩ => ?_)
        subst eN; subst eI
        refine V_aload_0 hx dX11_comesNow_205 ?_
        refine V_iload_3 hx dX11_comesNow_206 ?_
        refine V_bipush hx dX11_comesNow_207 (by decide) ?_
        refine V_aload_0 hx dX11_comesNow_209 ?_
        refine V_iload_1 hx dX11_comesNow_210 ?_
        refine V_iconst hx dX11_comesNow_211 ?_
        refine V_v2Q hx el ed (c_X11_setOf hN hF (by omega)) myX11_setOf mlX11_92 dX11_comesNow_212 ⟨_, rfl, rfl⟩ (k49 hN) (by decide) (by omega) rfl (by first | exact Nat.le_of_ble_eq_true rfl | simp [vI, vL, vR_cat, Value.category]) (fun r212 => ?_)
        (try simp only [up_s, up_c, up_row, up_k, ne_eq, Int.reduceEq, not_false_eq_true] at r212 ⊢)
        refine V_v3N hx el ed (c_X11_puts hN hF (by omega) (by omega)) myX11_puts mlX11_114 dX11_comesNow_215 ⟨_, rfl, rfl⟩ (k49 hN) (by decide) (by omega) rfl (by first | exact Nat.le_of_ble_eq_true rfl | simp [vI, vL, vR_cat, Value.category]) (fun N1 I1 ⟨eN, eI, hF⟩ => ?_)
        subst eN; subst eI
        refine V_aload_0 hx dX11_comesNow_218 ?_
        refine V_iload_3 hx dX11_comesNow_219 ?_
        refine V_bipush hx dX11_comesNow_220 (by decide) ?_
        refine V_iconst hx dX11_comesNow_222 ?_
        refine V_v3N hx el ed (c_X11_puts hN hF (by omega) (by omega)) myX11_puts mlX11_114 dX11_comesNow_223 ⟨_, rfl, rfl⟩ (k49 hN) (by decide) (by omega) rfl (by first | exact Nat.le_of_ble_eq_true rfl | simp [vI, vL, vR_cat, Value.category]) (fun N1 I1 ⟨eN, eI, hF⟩ => ?_)
        subst eN; subst eI
        refine V_aload_0 hx dX11_comesNow_226 ?_
        refine V_iload_3 hx dX11_comesNow_227 ?_
        refine V_bipush hx dX11_comesNow_228 (by decide) ?_
        refine V_bipush hx dX11_comesNow_230 (by decide) ?_
        refine V_v3N hx el ed (c_X11_puts hN hF (by omega) (by omega)) myX11_puts mlX11_114 dX11_comesNow_232 ⟨_, rfl, rfl⟩ (k49 hN) (by decide) (by omega) rfl (by first | exact Nat.le_of_ble_eq_true rfl | simp [vI, vL, vR_cat, Value.category]) (fun N1 I1 ⟨eN, eI, hF⟩ => ?_)
        subst eN; subst eI
        refine V_aload_0 hx dX11_comesNow_235 ?_
        refine V_iload_3 hx dX11_comesNow_236 ?_
        refine V_bipush hx dX11_comesNow_237 (by decide) ?_
        refine V_bipush hx dX11_comesNow_239 (by decide) ?_
        refine V_v3N hx el ed (c_X11_puts hN hF (by omega) (by omega)) myX11_puts mlX11_114 dX11_comesNow_241 ⟨_, rfl, rfl⟩ (k49 hN) (by decide) (by omega) rfl (by first | exact Nat.le_of_ble_eq_true rfl | simp [vI, vL, vR_cat, Value.category]) (fun N1 I1 ⟨eN, eI, hF⟩ => ?_)
        subst eN; subst eI
        refine V_aload_0 hx dX11_comesNow_244 ?_
        refine V_iload_3 hx dX11_comesNow_245 ?_
        refine V_bipush hx dX11_comesNow_246 (by decide) ?_
        refine V_iconst hx dX11_comesNow_248 ?_
        refine V_v3N hx el ed (c_X11_puts hN hF (by omega) (by omega)) myX11_puts mlX11_114 dX11_comesNow_249 ⟨_, rfl, rfl⟩ (k49 hN) (by decide) (by omega) rfl (by first | exact Nat.le_of_ble_eq_true rfl | simp [vI, vL, vR_cat, Value.category]) (fun N1 I1 ⟨eN, eI, hF⟩ => ?_)
        subst eN; subst eI
        refine V_aload_0 hx dX11_comesNow_252 ?_
        refine V_getRe hx flX11_19 dX11_comesNow_253 rfl (k49 hN) (hF.1 49 3 53 rfl) ?_
        refine V_iload_1 hx dX11_comesNow_256 ?_
        refine V_dup2 hx dX11_comesNow_257 ?_
        refine V_ialoadx hx hF dX11_comesNow_258 (k53 hN) (by decide) (by omega) (fun r258 => ?_)
        (try simp only [up_s, up_c, up_row, up_k, ne_eq, Int.reduceEq, not_false_eq_true] at r258 ⊢)
        refine V_iconst hx dX11_comesNow_259 ?_
        refine V_iadd hx dX11_comesNow_260 ?_
        refine V_iastorex hx hF dX11_comesNow_261 (k53 hN) (by decide) (by omega) (fx_none rfl _) (by omega) (Or.inl (by decide)) (fun hF => ?_)
        refine V_drop_4 ?_
        exact J262 hF
      · refine V_iload_4 hx dX11_comesNow_104 ?_
        refine V_goto (tgt := 113) hx dX11_comesNow_106 (by decide) ?_
        refine V_topI (nGate I s) (by unfold nGate; first | rw [cif_t (by omega)] | rw [cif_f (by omega)]) ?_
        have hg1 : 0 ≤ nGate I s ∧ nGate I s ≤ 300000 := by
          unfold nGate
          by_cases q : I 49 7 < nGate0 I s
          · rw [cif_t q]; omega
          · rw [cif_f q]; omega
        refine V_iastorex hx hF dX11_comesNow_113 (k52 hN) (by decide) (by omega) (fx_none rfl _) (by omega) (Or.inl (by decide)) (fun hF => ?_)
        refine V_aload_0 hx dX11_comesNow_114 ?_
        refine V_iload_3 hx dX11_comesNow_115 ?_
        refine V_iconst hx dX11_comesNow_116 ?_
        refine V_aload_0 hx dX11_comesNow_117 ?_
        refine V_iload_1 hx dX11_comesNow_118 ?_
        refine V_iconst hx dX11_comesNow_119 ?_
        refine V_v2Q hx el ed (c_X11_setOf hN hF (by omega)) myX11_setOf mlX11_92 dX11_comesNow_120 ⟨_, rfl, rfl⟩ (k49 hN) (by decide) (by omega) rfl (by first | exact Nat.le_of_ble_eq_true rfl | simp [vI, vL, vR_cat, Value.category]) (fun r120 => ?_)
        (try simp only [up_s, up_c, up_row, up_k, ne_eq, Int.reduceEq, not_false_eq_true] at r120 ⊢)
        refine V_v3N hx el ed (c_X11_puts hN hF (by omega) (by omega)) myX11_puts mlX11_114 dX11_comesNow_123 ⟨_, rfl, rfl⟩ (k49 hN) (by decide) (by omega) rfl (by first | exact Nat.le_of_ble_eq_true rfl | simp [vI, vL, vR_cat, Value.category]) (fun N1 I1 ⟨eN, eI, hF⟩ => ?_)
        subst eN; subst eI
        refine V_aload_0 hx dX11_comesNow_126 ?_
        refine V_iload_3 hx dX11_comesNow_127 ?_
        refine V_iconst hx dX11_comesNow_128 ?_
        refine V_iload_2 hx dX11_comesNow_129 ?_
        refine V_v3N hx el ed (c_X11_puts hN hF (by omega) (by omega)) myX11_puts mlX11_114 dX11_comesNow_130 ⟨_, rfl, rfl⟩ (k49 hN) (by decide) (by omega) rfl (by first | exact Nat.le_of_ble_eq_true rfl | simp [vI, vL, vR_cat, Value.category]) (fun N1 I1 ⟨eN, eI, hF⟩ => ?_)
        subst eN; subst eI
        refine V_aload_0 hx dX11_comesNow_133 ?_
        refine V_iload_3 hx dX11_comesNow_134 ?_
        refine V_iconst hx dX11_comesNow_135 ?_
        refine V_aload_0 hx dX11_comesNow_136 ?_
        refine V_getIx 7 hx hF flX11_111 dX11_comesNow_137 rfl rfl (k49 hN) (fun r137 => ?_)
        (try simp only [up_s, up_c, up_row, up_k, ne_eq, Int.reduceEq, not_false_eq_true] at r137 ⊢)
        refine V_v3N hx el ed (c_X11_puts hN hF (by omega) (by omega)) myX11_puts mlX11_114 dX11_comesNow_140 ⟨_, rfl, rfl⟩ (k49 hN) (by decide) (by omega) rfl (by first | exact Nat.le_of_ble_eq_true rfl | simp [vI, vL, vR_cat, Value.category]) (fun N1 I1 ⟨eN, eI, hF⟩ => ?_)
        subst eN; subst eI
        refine V_aload_0 hx dX11_comesNow_143 ?_
        refine V_iload_3 hx dX11_comesNow_144 ?_
        refine V_iconst hx dX11_comesNow_145 ?_
        refine V_aload_0 hx dX11_comesNow_146 ?_
        refine V_getIx 7 hx hF flX11_111 dX11_comesNow_147 rfl rfl (k49 hN) (fun r147 => ?_)
        (try simp only [up_s, up_c, up_row, up_k, ne_eq, Int.reduceEq, not_false_eq_true] at r147 ⊢)
        refine V_aload_0 hx dX11_comesNow_150 ?_
        refine V_iload_1 hx dX11_comesNow_151 ?_
        refine V_iconst hx dX11_comesNow_152 ?_
        refine V_v2Q hx el ed (c_X11_setOf hN hF (by omega)) myX11_setOf mlX11_92 dX11_comesNow_153 ⟨_, rfl, rfl⟩ (k49 hN) (by decide) (by omega) rfl (by first | exact Nat.le_of_ble_eq_true rfl | simp [vI, vL, vR_cat, Value.category]) (fun r153 => ?_)
        (try simp only [up_s, up_c, up_row, up_k, ne_eq, Int.reduceEq, not_false_eq_true] at r153 ⊢)
        refine V_iadd hx dX11_comesNow_156 ?_
        refine V_v3N hx el ed (c_X11_puts hN hF (by omega) (by omega)) myX11_puts mlX11_114 dX11_comesNow_157 ⟨_, rfl, rfl⟩ (k49 hN) (by decide) (by omega) rfl (by first | exact Nat.le_of_ble_eq_true rfl | simp [vI, vL, vR_cat, Value.category]) (fun N1 I1 ⟨eN, eI, hF⟩ => ?_)
        subst eN; subst eI
        refine V_aload_0 hx dX11_comesNow_160 ?_
        refine V_iload_3 hx dX11_comesNow_161 ?_
        refine V_iconst hx dX11_comesNow_162 ?_
        refine V_aload_0 hx dX11_comesNow_163 ?_
        refine V_getRe hx flX11_19 dX11_comesNow_164 rfl (k49 hN) (hF.1 49 3 53 rfl) ?_
        refine V_iload_1 hx dX11_comesNow_167 ?_
        refine V_ialoadx hx hF dX11_comesNow_168 (k53 hN) (by decide) (by omega) (fun r168 => ?_)
        (try simp only [up_s, up_c, up_row, up_k, ne_eq, Int.reduceEq, not_false_eq_true] at r168 ⊢)
        refine V_v3N hx el ed (c_X11_puts hN hF (by omega) (by omega)) myX11_puts mlX11_114 dX11_comesNow_169 ⟨_, rfl, rfl⟩ (k49 hN) (by decide) (by omega) rfl (by first | exact Nat.le_of_ble_eq_true rfl | simp [vI, vL, vR_cat, Value.category]) (fun N1 I1 ⟨eN, eI, hF⟩ => ?_)
        subst eN; subst eI
        refine V_aload_0 hx dX11_comesNow_172 ?_
        refine V_iload_3 hx dX11_comesNow_173 ?_
        refine V_iconst hx dX11_comesNow_174 ?_
        refine V_aload_0 hx dX11_comesNow_175 ?_
        refine V_getRe hx flX11_13 dX11_comesNow_176 rfl (k49 hN) (hF.1 49 1 51 rfl) ?_
        refine V_iload_1 hx dX11_comesNow_179 ?_
        refine V_ialoadx hx hF dX11_comesNow_180 (k51 hN) (by decide) (by omega) (fun r180 => ?_)
        (try simp only [up_s, up_c, up_row, up_k, ne_eq, Int.reduceEq, not_false_eq_true] at r180 ⊢)
        refine V_v3N hx el ed (c_X11_puts hN hF (by omega) (by omega)) myX11_puts mlX11_114 dX11_comesNow_181 ⟨_, rfl, rfl⟩ (k49 hN) (by decide) (by omega) rfl (by first | exact Nat.le_of_ble_eq_true rfl | simp [vI, vL, vR_cat, Value.category]) (fun N1 I1 ⟨eN, eI, hF⟩ => ?_)
        subst eN; subst eI
        refine V_aload_0 hx dX11_comesNow_184 ?_
        refine V_iload_3 hx dX11_comesNow_185 ?_
        refine V_bipush hx dX11_comesNow_186 (by decide) ?_
        refine V_iload_1 hx dX11_comesNow_188 ?_
        refine V_v3N hx el ed (c_X11_puts hN hF (by omega) (by omega)) myX11_puts mlX11_114 dX11_comesNow_189 ⟨_, rfl, rfl⟩ (k49 hN) (by decide) (by omega) rfl (by first | exact Nat.le_of_ble_eq_true rfl | simp [vI, vL, vR_cat, Value.category]) (fun N1 I1 ⟨eN, eI, hF⟩ => ?_)
        subst eN; subst eI
        refine V_aload_0 hx dX11_comesNow_192 ?_
        refine V_iload_3 hx dX11_comesNow_193 ?_
        refine V_bipush hx dX11_comesNow_194 (by decide) ?_
        refine V_aload_0 hx dX11_comesNow_196 ?_
        refine V_getRe hx flX11_16 dX11_comesNow_197 rfl (k49 hN) (hF.1 49 2 52 rfl) ?_
        refine V_iload_1 hx dX11_comesNow_200 ?_
        refine V_ialoadx hx hF dX11_comesNow_201 (k52 hN) (by decide) (by omega) (fun r201 => ?_)
        (try simp only [up_s, up_c, up_row, up_k, ne_eq, Int.reduceEq, not_false_eq_true] at r201 ⊢)
        refine V_v3N hx el ed (c_X11_puts hN hF (by omega) (by omega)) myX11_puts mlX11_114 dX11_comesNow_202 ⟨_, rfl, rfl⟩ (k49 hN) (by decide) (by omega) rfl (by first | exact Nat.le_of_ble_eq_true rfl | simp [vI, vL, vR_cat, Value.category]) (fun N1 I1 ⟨eN, eI, hF⟩ => ?_)
        subst eN; subst eI
        refine V_aload_0 hx dX11_comesNow_205 ?_
        refine V_iload_3 hx dX11_comesNow_206 ?_
        refine V_bipush hx dX11_comesNow_207 (by decide) ?_
        refine V_aload_0 hx dX11_comesNow_209 ?_
        refine V_iload_1 hx dX11_comesNow_210 ?_
        refine V_iconst hx dX11_comesNow_211 ?_
        refine V_v2Q hx el ed (c_X11_setOf hN hF (by omega)) myX11_setOf mlX11_92 dX11_comesNow_212 ⟨_, rfl, rfl⟩ (k49 hN) (by decide) (by omega) rfl (by first | exact Nat.le_of_ble_eq_true rfl | simp [vI, vL, vR_cat, Value.category]) (fun r212 => ?_)
        (try simp only [up_s, up_c, up_row, up_k, ne_eq, Int.reduceEq, not_false_eq_true] at r212 ⊢)
        refine V_v3N hx el ed (c_X11_puts hN hF (by omega) (by omega)) myX11_puts mlX11_114 dX11_comesNow_215 ⟨_, rfl, rfl⟩ (k49 hN) (by decide) (by omega) rfl (by first | exact Nat.le_of_ble_eq_true rfl | simp [vI, vL, vR_cat, Value.category]) (fun N1 I1 ⟨eN, eI, hF⟩ => ?_)
        subst eN; subst eI
        refine V_aload_0 hx dX11_comesNow_218 ?_
        refine V_iload_3 hx dX11_comesNow_219 ?_
        refine V_bipush hx dX11_comesNow_220 (by decide) ?_
        refine V_iconst hx dX11_comesNow_222 ?_
        refine V_v3N hx el ed (c_X11_puts hN hF (by omega) (by omega)) myX11_puts mlX11_114 dX11_comesNow_223 ⟨_, rfl, rfl⟩ (k49 hN) (by decide) (by omega) rfl (by first | exact Nat.le_of_ble_eq_true rfl | simp [vI, vL, vR_cat, Value.category]) (fun N1 I1 ⟨eN, eI, hF⟩ => ?_)
        subst eN; subst eI
        refine V_aload_0 hx dX11_comesNow_226 ?_
        refine V_iload_3 hx dX11_comesNow_227 ?_
        refine V_bipush hx dX11_comesNow_228 (by decide) ?_
        refine V_bipush hx dX11_comesNow_230 (by decide) ?_
        refine V_v3N hx el ed (c_X11_puts hN hF (by omega) (by omega)) myX11_puts mlX11_114 dX11_comesNow_232 ⟨_, rfl, rfl⟩ (k49 hN) (by decide) (by omega) rfl (by first | exact Nat.le_of_ble_eq_true rfl | simp [vI, vL, vR_cat, Value.category]) (fun N1 I1 ⟨eN, eI, hF⟩ => ?_)
        subst eN; subst eI
        refine V_aload_0 hx dX11_comesNow_235 ?_
        refine V_iload_3 hx dX11_comesNow_236 ?_
        refine V_bipush hx dX11_comesNow_237 (by decide) ?_
        refine V_bipush hx dX11_comesNow_239 (by decide) ?_
        refine V_v3N hx el ed (c_X11_puts hN hF (by omega) (by omega)) myX11_puts mlX11_114 dX11_comesNow_241 ⟨_, rfl, rfl⟩ (k49 hN) (by decide) (by omega) rfl (by first | exact Nat.le_of_ble_eq_true rfl | simp [vI, vL, vR_cat, Value.category]) (fun N1 I1 ⟨eN, eI, hF⟩ => ?_)
        subst eN; subst eI
        refine V_aload_0 hx dX11_comesNow_244 ?_
        refine V_iload_3 hx dX11_comesNow_245 ?_
        refine V_bipush hx dX11_comesNow_246 (by decide) ?_
        refine V_iconst hx dX11_comesNow_248 ?_
        refine V_v3N hx el ed (c_X11_puts hN hF (by omega) (by omega)) myX11_puts mlX11_114 dX11_comesNow_249 ⟨_, rfl, rfl⟩ (k49 hN) (by decide) (by omega) rfl (by first | exact Nat.le_of_ble_eq_true rfl | simp [vI, vL, vR_cat, Value.category]) (fun N1 I1 ⟨eN, eI, hF⟩ => ?_)
        subst eN; subst eI
        refine V_aload_0 hx dX11_comesNow_252 ?_
        refine V_getRe hx flX11_19 dX11_comesNow_253 rfl (k49 hN) (hF.1 49 3 53 rfl) ?_
        refine V_iload_1 hx dX11_comesNow_256 ?_
        refine V_dup2 hx dX11_comesNow_257 ?_
        refine V_ialoadx hx hF dX11_comesNow_258 (k53 hN) (by decide) (by omega) (fun r258 => ?_)
        (try simp only [up_s, up_c, up_row, up_k, ne_eq, Int.reduceEq, not_false_eq_true] at r258 ⊢)
        refine V_iconst hx dX11_comesNow_259 ?_
        refine V_iadd hx dX11_comesNow_260 ?_
        refine V_iastorex hx hF dX11_comesNow_261 (k53 hN) (by decide) (by omega) (fx_none rfl _) (by omega) (Or.inl (by decide)) (fun hF => ?_)
        refine V_drop_4 ?_
        exact J262 hF

