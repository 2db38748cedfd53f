set_option maxRecDepth 8000 in
theorem c_X6_put {l : Launch} {d : Dd} {z : Nat} {N : Int} {I : Mm} {b : Int} (hN : 67 ≤ N) (hF : Fx I) (hS : StoC I N) (hz : I 13 1 < 25) (hzk : I 15 1 < 25) (hb : shk N b (0, 9)) (hbr : 67 ≤ b ∧ b ≤ 2000) : Cn l d z yX6_put cX6_put 2 none 1 21 0 0 [vR z 12, vR z b] N I (pN (fun N' I' => N' = N ∧ I' = up (up (up (up I 14 (I 13 1) b) 13 1 (I 13 1 + 1)) 16 (I 15 1) b) 15 1 (I 15 1 + 1) ∧ Fx I')) := by
  refine Cn.ofA [(vR z 12, false), (vR z b, false)] [some (vR z 12), some (vR z b)] RX6 (by decide) rfl ⟨cR z 12, cR z b, trivial⟩ (Nat.le_of_ble_eq_true rfl) rfl (fun x ed el hx hini => ?_)
  obtain ⟨hL, hK, hH, hG⟩ := hS
  have hL1 := hL.1
  have hK1 := hK.1
  refine V_aload_0 hx dX6_put_0 ?_
  refine V_getRe hx flX6_12 dX6_put_1 rfl (k12 hN) (hF.1 12 0 13 rfl) ?_
  refine V_aload_1 hx dX6_put_4 ?_
  refine V_v1N hx el ed (c_X1_add13 hN hF hL (by omega) hb (by omega)) myX1_add mlX6_28 dX6_put_5 ⟨_, rfl, rfl⟩ (k13 hN) (by decide) (by omega) rfl (by first | exact Nat.le_of_ble_eq_true rfl | simp [vI, vL, vR_cat, Value.category]) (fun N1 I1 ⟨eN, eI, hF⟩ => ?_)
  subst eN; subst eI
  refine V_aload_0 hx dX6_put_8 ?_
  have ek : up (up I 14 (I 13 1) b) 13 1 (I 13 1 + 1) 15 1 = I 15 1 := by rw [up_c (by decide), up_c (by decide)]
  have em : up (up I 14 (I 13 1) b) 13 1 (I 13 1 + 1) 15 1 + 1 = I 15 1 + 1 := by rw [ek]
  have hK2 : LnC (up (up I 14 (I 13 1) b) 13 1 (I 13 1 + 1)) N1 15 16 := by
    refine ⟨by rw [ek]; exact hK1, fun j j0 j1 => ?_⟩
    rw [ek] at j1
    rw [up_c (by decide), up_c (by decide)]
    exact hK.2 j j0 j1
  refine V_getRe hx flX6_18 dX6_put_9 rfl (k12 hN) (hF.1 12 1 15 rfl) ?_
  refine V_aload_1 hx dX6_put_12 ?_
  refine V_v1N hx el ed (c_X1_add15 hN hF hK2 (by omega) hb (by omega)) myX1_add mlX6_28 dX6_put_13 ⟨_, rfl, rfl⟩ (k15 hN) (by decide) (by omega) rfl (by first | exact Nat.le_of_ble_eq_true rfl | simp [vI, vL, vR_cat, Value.category]) (fun N1 I1 ⟨eN, eI, hF⟩ => ?_)
  subst eN; subst eI
  refine V_return hx dX6_put_16 (by omega) (by omega) ?_
  exact ⟨rfl, rfl, by rw [ek], hF⟩

set_option maxRecDepth 8000 in
theorem c_X6_openCount {l : Launch} {d : Dd} {z : Nat} {N : Int} {I : Mm} {t : Int} (hN : 67 ≤ N) (hF : Fx I) (hS : StoC I N) (ht : -2147483648 ≤ t ∧ t ≤ 2147483647) : Cn l d z yX6_openCount cX6_openCount 4 (some .int) 1 21 0 0 [vR z 12, vI t] N I (pq (cntW (fun i => I (I 14 i) 9 ≤ t) (I 13 1).toNat) N I) := by
  refine Cn.ofA [(vR z 12, false), (vI t, false)] [some (vR z 12), some (vI t), none, none] RX6 (by decide) rfl ⟨cR z 12, rfl, trivial⟩ (Nat.le_of_ble_eq_true rfl) rfl (fun x ed el hx hini => ?_)
  obtain ⟨hL, hK, hH, hG⟩ := hS
  have hL1 := hL.1
  have hK1 := hK.1
  refine V_iconst hx dX6_openCount_0 ?_
  refine V_istore_2 hx (by first | exact nc_I | exact nc_R | exact nc_n) dX6_openCount_1 ?_
  refine V_iconst hx dX6_openCount_2 ?_
  refine V_istore_3 hx (by first | exact nc_I | exact nc_R | exact nc_n) dX6_openCount_3 ?_
  refine loop_fld (α := Int) (fun acc i => acc + cif (I (I 14 i) 9 ≤ t) 1 0) 0 (I 13 1) hL1.1 (fun i acc => V x z _ N I 0 0 4 [some (vR z 12), some (vI t), some (vI acc), some (vI i)] []) ?_ ?_
  · refine V_iload_3 hx dX6_openCount_4 ?_
    refine V_aload_0 hx dX6_openCount_5 ?_
    refine V_getRe hx flX6_12 dX6_openCount_6 rfl (k12 hN) (hF.1 12 0 13 rfl) ?_
    refine V_getIx 1 hx hF flX6_32 dX6_openCount_9 rfl rfl (k13 hN) (fun r9 => ?_)
    refine V_icmp_ge (tgt := 44) hx dX6_openCount_12 (by decide) (by omega) (by omega) (fun h12 => ?_) (fun h12 => ?_)
    · refine V_iload_2 hx dX6_openCount_44 ?_
      refine V_ireturn hx dX6_openCount_45 (by omega) (by omega) ?_
      exact ⟨rfl, rfl, rfl, by have := cntW_b (fun i => I (I 14 i) 9 ≤ t) (I 13 1).toNat; omega⟩
    · exfalso; omega
  · intro i hi0 hi1 ih
    generalize fld _ _ _ = acc at ih ⊢
    have hen := hL.2 i hi0 hi1
    have hsh := wdC hen.1 hen.2
    have hhs := hH i hi0 hi1
    refine V_iload_3 hx dX6_openCount_4 ?_
    refine V_aload_0 hx dX6_openCount_5 ?_
    refine V_getRe hx flX6_12 dX6_openCount_6 rfl (k12 hN) (hF.1 12 0 13 rfl) ?_
    refine V_getIx 1 hx hF flX6_32 dX6_openCount_9 rfl rfl (k13 hN) (fun r9 => ?_)
    refine V_icmp_ge (tgt := 44) hx dX6_openCount_12 (by decide) (by omega) (by omega) (fun h12 => ?_) (fun h12 => ?_)
    · exfalso; omega
    · refine V_iload_2 hx dX6_openCount_15 ?_
      refine V_aload_0 hx dX6_openCount_16 ?_
      refine V_getRe hx flX6_12 dX6_openCount_17 rfl (k12 hN) (hF.1 12 0 13 rfl) ?_
      refine V_iload_3 hx dX6_openCount_20 ?_
      refine V_v1P hx el ed (c_X1_at13i hN hF hL (by omega) (by omega)) myX1_at mlX6_36 dX6_openCount_21 ⟨_, rfl, rfl⟩ (k13 hN) (by decide) (by omega) rfl (by first | exact Nat.le_of_ble_eq_true rfl | simp [vI, vL, vR_cat, Value.category]) ?_
      refine V_iload_1 hx dX6_openCount_24 ?_
      refine V_v1P hx el ed (c_X9_isOpen hF (by assumption) (by omega)) myX9_isOpen mlX6_40 dX6_openCount_25 ⟨_, rfl, rfl⟩ (by assumption) (by decide) (by omega) rfl (by first | exact Nat.le_of_ble_eq_true rfl | simp [vI, vL, vR_cat, Value.category]) ?_
      refine V_ifB_eq (tgt := 35) hx dX6_openCount_28 (by decide) (fun h28 => ?_) (fun h28 => ?_)
      · refine V_iconst hx dX6_openCount_35 ?_
        refine V_iadd hx dX6_openCount_36 ?_
        refine V_istore_2 hx (by first | exact nc_I | exact nc_R | exact nc_n) dX6_openCount_37 ?_
        refine V_iinc_3 hx (by first | exact nc_I | exact nc_R | exact nc_n) dX6_openCount_38 ?_
        refine V_goto (tgt := 4) hx dX6_openCount_41 (by decide) ?_
        first | exact ih | (rw [cif_t (by first | omega | simp_all)] at ih; exact ih) | (rw [cif_f (by first | omega | simp_all)] at ih; exact ih)
      · refine V_iconst hx dX6_openCount_31 ?_
        refine V_goto (tgt := 36) hx dX6_openCount_32 (by decide) ?_
        refine V_iadd hx dX6_openCount_36 ?_
        refine V_istore_2 hx (by first | exact nc_I | exact nc_R | exact nc_n) dX6_openCount_37 ?_
        refine V_iinc_3 hx (by first | exact nc_I | exact nc_R | exact nc_n) dX6_openCount_38 ?_
        refine V_goto (tgt := 4) hx dX6_openCount_41 (by decide) ?_
        first | exact ih | (rw [cif_t (by first | omega | simp_all)] at ih; exact ih) | (rw [cif_f (by first | omega | simp_all)] at ih; exact ih)

set_option maxRecDepth 8000 in
theorem c_X6_firstGate {l : Launch} {d : Dd} {z : Nat} {N : Int} {I : Mm} {t : Int} (hN : 67 ≤ N) (hF : Fx I) (hS : StoC I N) (ht : -2147483648 ≤ t ∧ t ≤ 2147483647) : Cn l d z yX6_firstGate cX6_firstGate 4 (some .int) 1 21 0 0 [vR z 12, vI t] N I (pq (fGt I t) N I) := by
  refine Cn.ofA [(vR z 12, false), (vI t, false)] [some (vR z 12), some (vI t), none, none] RX6 (by decide) rfl ⟨cR z 12, rfl, trivial⟩ (Nat.le_of_ble_eq_true rfl) rfl (fun x ed el hx hini => ?_)
  obtain ⟨hL, hK, hH, hG⟩ := hS
  have hL1 := hL.1
  have hK1 := hK.1
  refine V_iload_1 hx dX6_firstGate_0 ?_
  refine V_istore_2 hx (by first | exact nc_I | exact nc_R | exact nc_n) dX6_firstGate_1 ?_
  refine V_iconst hx dX6_firstGate_2 ?_
  refine V_istore_3 hx (by first | exact nc_I | exact nc_R | exact nc_n) dX6_firstGate_3 ?_
  refine loop_fld (α := Int) (fun acc i => min acc (I (I 14 i) 9)) t (I 13 1) hL1.1 (fun i acc => V x z _ N I 0 0 4 [some (vR z 12), some (vI t), some (vI acc), some (vI i)] []) ?_ ?_
  · refine V_iload_3 hx dX6_firstGate_4 ?_
    refine V_aload_0 hx dX6_firstGate_5 ?_
    refine V_getRe hx flX6_12 dX6_firstGate_6 rfl (k12 hN) (hF.1 12 0 13 rfl) ?_
    refine V_getIx 1 hx hF flX6_32 dX6_firstGate_9 rfl rfl (k13 hN) (fun r9 => ?_)
    refine V_icmp_ge (tgt := 37) hx dX6_firstGate_12 (by decide) (by omega) (by omega) (fun h12 => ?_) (fun h12 => ?_)
    · refine V_iload_2 hx dX6_firstGate_37 ?_
      refine V_ireturn hx dX6_firstGate_38 (by omega) (by omega) ?_
      exact ⟨rfl, rfl, rfl, fGt_r hF ht _⟩
    · exfalso; omega
  · intro i hi0 hi1 ih
    have hac := fGt_r hF ht i.toNat
    generalize fld _ _ _ = acc at ih hac ⊢
    have hen := hL.2 i hi0 hi1
    have hsh := wdC hen.1 hen.2
    have hhs := hH i hi0 hi1
    refine V_iload_3 hx dX6_firstGate_4 ?_
    refine V_aload_0 hx dX6_firstGate_5 ?_
    refine V_getRe hx flX6_12 dX6_firstGate_6 rfl (k12 hN) (hF.1 12 0 13 rfl) ?_
    refine V_getIx 1 hx hF flX6_32 dX6_firstGate_9 rfl rfl (k13 hN) (fun r9 => ?_)
    refine V_icmp_ge (tgt := 37) hx dX6_firstGate_12 (by decide) (by omega) (by omega) (fun h12 => ?_) (fun h12 => ?_)
    · exfalso; omega
    · refine V_iload_2 hx dX6_firstGate_15 ?_
      refine V_aload_0 hx dX6_firstGate_16 ?_
      refine V_getRe hx flX6_12 dX6_firstGate_17 rfl (k12 hN) (hF.1 12 0 13 rfl) ?_
      refine V_iload_3 hx dX6_firstGate_20 ?_
      refine V_v1P hx el ed (c_X1_at13i hN hF hL (by omega) (by omega)) myX1_at mlX6_36 dX6_firstGate_21 ⟨_, rfl, rfl⟩ (k13 hN) (by decide) (by omega) rfl (by first | exact Nat.le_of_ble_eq_true rfl | simp [vI, vL, vR_cat, Value.category]) ?_
      refine V_getIx 9 hx hF flX6_46 dX6_firstGate_24 rfl rfl (by assumption) (fun r24 => ?_)
      refine V_s2Q hx el ed (c_J9_min_7cf53 (by omega) (by omega)) myJ9_min_7cf53 mlX6_49 dX6_firstGate_27 (by decide) (by omega) rfl (by first | exact Nat.le_of_ble_eq_true rfl | simp [vI, vL, vR_cat, Value.category]) (fun r27 => ?_)
      refine V_istore_2 hx (by first | exact nc_I | exact nc_R | exact nc_n) dX6_firstGate_30 ?_
      refine V_iinc_3 hx (by first | exact nc_I | exact nc_R | exact nc_n) dX6_firstGate_31 ?_
      refine V_goto (tgt := 4) hx dX6_firstGate_34 (by decide) ?_
      first | exact ih | (rw [cif_t (by first | omega | simp_all)] at ih; exact ih) | (rw [cif_f (by first | omega | simp_all)] at ih; exact ih)

set_option maxRecDepth 8000 in
theorem c_X6_openHouses {l : Launch} {d : Dd} {z : Nat} {N : Int} {I : Mm} {t : Int} (hN : 67 ≤ N) (hF : Fx I) (hS : StoC I N) (ht : -2147483648 ≤ t ∧ t ≤ 2147483647) : Cn l d z yX6_openHouses cX6_openHouses 5 (some .int) 1 21 0 0 [vR z 12, vI t] N I (pI (fun r N' I' => N' = N ∧ I' = I ∧ (0 ≤ r ∧ r < 16) ∧ ∀ g : Int, 0 ≤ g → g ≤ 3 → (bitP r g ↔ opH I t g (I 13 1)))) := by
  refine Cn.ofA [(vR z 12, false), (vI t, false)] [some (vR z 12), some (vI t), none, none, none] RX6 (by decide) rfl ⟨cR z 12, rfl, trivial⟩ (Nat.le_of_ble_eq_true rfl) rfl (fun x ed el hx hini => ?_)
  obtain ⟨hL, hK, hH, hG⟩ := hS
  have hL1 := hL.1
  have hK1 := hK.1
  refine V_iconst hx dX6_openHouses_0 ?_
  refine V_istore_2 hx (by first | exact nc_I | exact nc_R | exact nc_n) dX6_openHouses_1 ?_
  refine V_iconst hx dX6_openHouses_2 ?_
  refine V_istore_3 hx (by first | exact nc_I | exact nc_R | exact nc_n) dX6_openHouses_3 ?_
  refine loop_inv (α := Int) 0 (I 13 1) hL1.1 (fun i (s : Int) => (0 ≤ s ∧ s < 16) ∧ ∀ g : Int, 0 ≤ g → g ≤ 3 → (bitP s g ↔ opH I t g i)) (fun i s => V x z _ N I 0 0 4 [some (vR z 12), some (vI t), some (vI s), some (vI i), none] []) ?_ ?_ 0 ⟨by omega, fun g _ _ => ⟨fun h => absurd h (bit_0 g), fun h => absurd h opH_0⟩⟩
  · rintro s ⟨hs, hJ⟩
    refine V_iload_3 hx dX6_openHouses_4 ?_
    refine V_aload_0 hx dX6_openHouses_5 ?_
    refine V_getRe hx flX6_12 dX6_openHouses_6 rfl (k12 hN) (hF.1 12 0 13 rfl) ?_
    refine V_getIx 1 hx hF flX6_32 dX6_openHouses_9 rfl rfl (k13 hN) (fun r9 => ?_)
    refine V_icmp_ge (tgt := 54) hx dX6_openHouses_12 (by decide) (by omega) (by omega) (fun h12 => ?_) (fun h12 => ?_)
    · refine V_iload_2 hx dX6_openHouses_54 ?_
      refine V_ireturn hx dX6_openHouses_55 (by omega) (by omega) ?_
      exact ⟨_, rfl, rfl, rfl, hs, hJ⟩
    · exfalso; omega
  · rintro i s hi0 hi1 ⟨hs, hJ⟩ ih
    have hen := hL.2 i hi0 hi1
    have hsh := wdC hen.1 hen.2
    have hhs := hH i hi0 hi1
    obtain ⟨s1, e1, q1, e2, hq, hqb⟩ := bit_or hs hhs
    refine V_iload_3 hx dX6_openHouses_4 ?_
    refine V_aload_0 hx dX6_openHouses_5 ?_
    refine V_getRe hx flX6_12 dX6_openHouses_6 rfl (k12 hN) (hF.1 12 0 13 rfl) ?_
    refine V_getIx 1 hx hF flX6_32 dX6_openHouses_9 rfl rfl (k13 hN) (fun r9 => ?_)
    refine V_icmp_ge (tgt := 54) hx dX6_openHouses_12 (by decide) (by omega) (by omega) (fun h12 => ?_) (fun h12 => ?_)
    · exfalso; omega
    · refine V_aload_0 hx dX6_openHouses_15 ?_
      refine V_getRe hx flX6_12 dX6_openHouses_16 rfl (k12 hN) (hF.1 12 0 13 rfl) ?_
      refine V_iload_3 hx dX6_openHouses_19 ?_
      refine V_v1P hx el ed (c_X1_at13i hN hF hL (by omega) (by omega)) myX1_at mlX6_36 dX6_openHouses_20 ⟨_, rfl, rfl⟩ (k13 hN) (by decide) (by omega) rfl (by first | exact Nat.le_of_ble_eq_true rfl | simp [vI, vL, vR_cat, Value.category]) ?_
      refine V_astore_4 hx (by first | exact nc_I | exact nc_R | exact nc_n) dX6_openHouses_23 ?_
      refine V_iload_2 hx dX6_openHouses_25 ?_
      refine V_aload_4 hx dX6_openHouses_26 ?_
      refine V_iload_1 hx dX6_openHouses_28 ?_
      refine V_v1P hx el ed (c_X9_isOpen hF (by assumption) (by omega)) myX9_isOpen mlX6_40 dX6_openHouses_29 ⟨_, rfl, rfl⟩ (by assumption) (by decide) (by omega) rfl (by first | exact Nat.le_of_ble_eq_true rfl | simp [vI, vL, vR_cat, Value.category]) ?_
      refine V_ifB_eq (tgt := 45) hx dX6_openHouses_32 (by decide) (fun h32 => ?_) (fun h32 => ?_)
      · refine V_iconst hx dX6_openHouses_45 ?_
        first | refine V_ior hx q1 dX6_openHouses_46 e2 ?_ | refine V_ior hx s dX6_openHouses_46 (oI_or0 s) ?_
        refine V_istore_2 hx (by first | exact nc_I | exact nc_R | exact nc_n) dX6_openHouses_47 ?_
        refine V_iinc_3 hx (by first | exact nc_I | exact nc_R | exact nc_n) dX6_openHouses_48 ?_
        refine V_goto (tgt := 4) hx dX6_openHouses_51 (by decide) ?_
        refine V_drop_4 ?_
        first | exact ih q1 ⟨hq, fun g g0 g1 => by rw [hqb g g0 g1, hJ g g0 g1, opH_s hi0]; exact or_congr Iff.rfl ⟨fun e => ⟨by assumption, e.symm⟩, fun e => e.2.symm⟩⟩ | exact ih s ⟨hs, fun g g0 g1 => by rw [hJ g g0 g1, opH_s hi0]; exact ⟨Or.inl, fun e => e.elim id (fun e => absurd e.1 (by assumption))⟩⟩
      · refine V_iconst hx dX6_openHouses_35 ?_
        refine V_aload_4 hx dX6_openHouses_36 ?_
        refine V_getIx 2 hx hF flX6_59 dX6_openHouses_38 rfl rfl (by assumption) (fun r38 => ?_)
        refine V_ishl hx s1 dX6_openHouses_41 e1 ?_
        refine V_goto (tgt := 46) hx dX6_openHouses_42 (by decide) ?_
        first | refine V_ior hx q1 dX6_openHouses_46 e2 ?_ | refine V_ior hx s dX6_openHouses_46 (oI_or0 s) ?_
        refine V_istore_2 hx (by first | exact nc_I | exact nc_R | exact nc_n) dX6_openHouses_47 ?_
        refine V_iinc_3 hx (by first | exact nc_I | exact nc_R | exact nc_n) dX6_openHouses_48 ?_
        refine V_goto (tgt := 4) hx dX6_openHouses_51 (by decide) ?_
        refine V_drop_4 ?_
        first | exact ih q1 ⟨hq, fun g g0 g1 => by rw [hqb g g0 g1, hJ g g0 g1, opH_s hi0]; exact or_congr Iff.rfl ⟨fun e => ⟨by assumption, e.symm⟩, fun e => e.2.symm⟩⟩ | exact ih s ⟨hs, fun g g0 g1 => by rw [hJ g g0 g1, opH_s hi0]; exact ⟨Or.inl, fun e => e.elim id (fun e => absurd e.1 (by assumption))⟩⟩

set_option maxRecDepth 8000 in
theorem c_X6_nextMark {l : Launch} {d : Dd} {z : Nat} {N : Int} {I : Mm} {t : Int} (hN : 67 ≤ N) (hF : Fx I) (hS : StoC I N) (ht : -2147483648 ≤ t ∧ t ≤ 2147483647) : Cn l d z yX6_nextMark cX6_nextMark 10 (some .int) 2 45 0 0 [vR z 12, vI t] N I (pq (nxM I t) N I) := by
  refine Cn.ofA [(vR z 12, false), (vI t, false)] [some (vR z 12), some (vI t), none, none, none, none, none, none, none, none] RX6 (by decide) rfl ⟨cR z 12, rfl, trivial⟩ (Nat.le_of_ble_eq_true rfl) rfl (fun x ed el hx hini => ?_)
  obtain ⟨hL, hK, hH, hG⟩ := hS
  have hL1 := hL.1
  have hK1 := hK.1
  refine V_aload_0 hx dX6_nextMark_0 ?_
  refine V_iload_1 hx dX6_nextMark_1 ?_
  refine V_v1I hx el ed (c_X6_openHouses hN hF ⟨hL, hK, hH, hG⟩ (by omega)) myX6_openHouses mlX6_74 dX6_nextMark_2 ⟨_, rfl, rfl⟩ (k12 hN) (by decide) (by omega) rfl (by first | exact Nat.le_of_ble_eq_true rfl | simp [vI, vL, vR_cat, Value.category]) (fun r N1 I1 hq => ?_)
  obtain ⟨eN, eI, hr, hrb⟩ := hq
  subst eN; subst eI
  refine V_istore_2 hx (by first | exact nc_I | exact nc_R | exact nc_n) dX6_nextMark_5 ?_
  refine V_iconst hx dX6_nextMark_6 ?_
  refine V_istore_3 hx (by first | exact nc_I | exact nc_R | exact nc_n) dX6_nextMark_7 ?_
  refine V_lconst (v := 0) hx dX6_nextMark_8 (by decide) ?_
  refine V_lstore_4 hx (by first | exact nc_I | exact nc_R | exact nc_n) dX6_nextMark_9 ?_
  refine V_iconst hx dX6_nextMark_11 ?_
  refine V_istore_6 hx (by first | exact nc_I | exact nc_R | exact nc_n) dX6_nextMark_12 ?_
  refine loop_inv2 (α := Int) (β := Int) 0 (I1 15 1) hK1.1 (fun i b m => b = bstL (fun i => opH I1 t (I1 (I1 16 i) 2) (I1 13 1)) (fun i b => crk I1 10 (I1 16 i) < crk I1 10 (I1 16 b)) i.toNat ∧ (b ≠ -1 → m = crk I1 10 (I1 16 b)) ∧ (-4611686018427387904 ≤ m ∧ m ≤ 4611686018427387904)) (fun i b m => V x z _ N1 I1 0 0 14 [some (vR z 12), some (vI t), some (vI r), some (vI b), some (vL m), none, some (vI i), none, none, none] []) ?_ ?_ (-1) 0 ⟨rfl, fun h => absurd rfl h, by omega⟩
  · rintro b m ⟨eb, em, mr⟩
    have hbr := bstL_r (fun i => opH I1 t (I1 (I1 16 i) 2) (I1 13 1)) (fun i b => crk I1 10 (I1 16 i) < crk I1 10 (I1 16 b)) (I1 15 1).toNat
    have hb2 : -2147483648 ≤ b ∧ b ≤ 2147483647 := by rw [eb]; rcases hbr with h | ⟨h1, h2, -⟩ <;> omega
    refine V_iload_6 hx dX6_nextMark_14 ?_
    refine V_aload_0 hx dX6_nextMark_16 ?_
    refine V_getRe hx flX6_18 dX6_nextMark_17 rfl (k12 hN) (hF.1 12 1 15 rfl) ?_
    refine V_getIx 1 hx hF flX6_32 dX6_nextMark_20 rfl rfl (k15 hN) (fun r20 => ?_)
    refine V_icmp_ge (tgt := 88) hx dX6_nextMark_23 (by decide) (by omega) (by omega) (fun h23 => ?_) (fun h23 => ?_)
    · refine V_iload_3 hx dX6_nextMark_88 ?_
      refine V_ireturn hx dX6_nextMark_89 (by omega) (by omega) ?_
      exact ⟨by rw [eb]; rfl, rfl, rfl, by rw [eb] at hb2; exact hb2⟩
    · exfalso; omega
  · rintro i b m hi0 hi1 ⟨eb, em, mr⟩ ih
    have hen := hK.2 i hi0 hi1
    have hsh := wdC hen.1 hen.2
    have hhs := hG i hi0 hi1
    obtain ⟨s1, e1, q1, e2, hq, hqb⟩ := bit_get hr hhs
    have hpi := hqb.trans (hrb _ hhs.1 hhs.2)
    have hbr := bstL_r (fun i => opH I1 t (I1 (I1 16 i) 2) (I1 13 1)) (fun i b => crk I1 10 (I1 16 i) < crk I1 10 (I1 16 b)) i.toNat
    rw [← eb] at hbr
    have hb2 : b = -1 ∨ (0 ≤ b ∧ b < i) := by rcases hbr with h | ⟨h1, h2, -⟩ <;> omega
    refine V_iload_6 hx dX6_nextMark_14 ?_
    refine V_aload_0 hx dX6_nextMark_16 ?_
    refine V_getRe hx flX6_18 dX6_nextMark_17 rfl (k12 hN) (hF.1 12 1 15 rfl) ?_
    refine V_getIx 1 hx hF flX6_32 dX6_nextMark_20 rfl rfl (k15 hN) (fun r20 => ?_)
    refine V_icmp_ge (tgt := 88) hx dX6_nextMark_23 (by decide) (by omega) (by omega) (fun h23 => ?_) (fun h23 => ?_)
    · exfalso; omega
    · refine V_aload_0 hx dX6_nextMark_26 ?_
      refine V_getRe hx flX6_18 dX6_nextMark_27 rfl (k12 hN) (hF.1 12 1 15 rfl) ?_
      refine V_iload_6 hx dX6_nextMark_30 ?_
      refine V_v1P hx el ed (c_X1_at15i hN hF hK (by omega) (by omega)) myX1_at mlX6_36 dX6_nextMark_32 ⟨_, rfl, rfl⟩ (k15 hN) (by decide) (by omega) rfl (by first | exact Nat.le_of_ble_eq_true rfl | simp [vI, vL, vR_cat, Value.category]) ?_
      refine V_astore_7 hx (by first | exact nc_I | exact nc_R | exact nc_n) dX6_nextMark_35 ?_
      refine V_iload_2 hx dX6_nextMark_37 ?_
      refine V_aload_7 hx dX6_nextMark_38 ?_
      refine V_getIx 2 hx hF flX6_59 dX6_nextMark_40 rfl rfl (by assumption) (fun r40 => ?_)
      refine V_ishr hx s1 dX6_nextMark_43 e1 ?_
      refine V_iconst hx dX6_nextMark_44 ?_
      refine V_iand hx q1 dX6_nextMark_45 e2 ?_
      refine V_if_ne (tgt := 52) hx dX6_nextMark_46 (by decide) (by omega) (fun h46 => ?_) (fun h46 => ?_)
      · refine V_aload_0 hx dX6_nextMark_52 ?_
        refine V_getRe hx flX6_25 dX6_nextMark_53 rfl (k12 hN) (hF.1 12 3 9 rfl) ?_
        refine V_aload_7 hx dX6_nextMark_56 ?_
        refine V_v1K hx el ed (c_X4_rankOf9 hN hF (by assumption)) myX4_rankOf mlX6_77 dX6_nextMark_58 ⟨_, rfl, rfl⟩ (k9 hN) (by decide) (by omega) rfl (by first | exact Nat.le_of_ble_eq_true rfl | simp [vI, vL, vR_cat, Value.category]) (fun r58 => ?_)
        refine V_lstore_8 hx (by first | exact nc_I | exact nc_R | exact nc_n) dX6_nextMark_61 ?_
        refine V_iload_3 hx dX6_nextMark_63 ?_
        refine V_if_lt (tgt := 75) hx dX6_nextMark_64 (by decide) (by omega) (fun h64 => ?_) (fun h64 => ?_)
        · refine V_iload_6 hx dX6_nextMark_75 ?_
          refine V_istore_3 hx (by first | exact nc_I | exact nc_R | exact nc_n) dX6_nextMark_77 ?_
          refine V_lload_8 hx dX6_nextMark_78 ?_
          refine V_lstore_4 hx (by first | exact nc_I | exact nc_R | exact nc_n) dX6_nextMark_80 ?_
          refine V_iinc_6 hx (by first | exact nc_I | exact nc_R | exact nc_n) dX6_nextMark_82 ?_
          refine V_goto (tgt := 14) hx dX6_nextMark_85 (by decide) ?_
          refine V_drop_7 ?_
          refine V_drop_8 ?_
          first
            | exact ih i _ ⟨(bstL_y hi0 (hpi.mp (by omega)) (Or.inl (by omega))).symm, fun _ => rfl, by omega⟩
            | exact ih i _ ⟨(bstL_y hi0 (hpi.mp (by omega)) (Or.inr (by rw [← eb]; have := em (by omega); omega))).symm, fun _ => rfl, by omega⟩
            | exact ih b m ⟨by rw [bstL_n hi0 (fun q => by rw [← eb] at q; first | exact absurd (hpi.mpr q.1) (by omega) | (rcases q.2 with q | q; omega; have := em (by omega); omega))]; exact eb, em, mr⟩
        · refine V_lload_8 hx dX6_nextMark_67 ?_
          refine V_lload_4 hx dX6_nextMark_69 ?_
          refine V_lif_ge (tgt := 82) hx dX6_nextMark_71 dX6_nextMark_72 (by decide) (by omega) (by omega) (fun h72 => ?_) (fun h72 => ?_)
          · refine V_iinc_6 hx (by first | exact nc_I | exact nc_R | exact nc_n) dX6_nextMark_82 ?_
            refine V_goto (tgt := 14) hx dX6_nextMark_85 (by decide) ?_
            refine V_drop_7 ?_
            refine V_drop_8 ?_
            first
              | exact ih i _ ⟨(bstL_y hi0 (hpi.mp (by omega)) (Or.inl (by omega))).symm, fun _ => rfl, by omega⟩
              | exact ih i _ ⟨(bstL_y hi0 (hpi.mp (by omega)) (Or.inr (by rw [← eb]; have := em (by omega); omega))).symm, fun _ => rfl, by omega⟩
              | exact ih b m ⟨by rw [bstL_n hi0 (fun q => by rw [← eb] at q; first | exact absurd (hpi.mpr q.1) (by omega) | (rcases q.2 with q | q; omega; have := em (by omega); omega))]; exact eb, em, mr⟩
          · refine V_iload_6 hx dX6_nextMark_75 ?_
            refine V_istore_3 hx (by first | exact nc_I | exact nc_R | exact nc_n) dX6_nextMark_77 ?_
            refine V_lload_8 hx dX6_nextMark_78 ?_
            refine V_lstore_4 hx (by first | exact nc_I | exact nc_R | exact nc_n) dX6_nextMark_80 ?_
            refine V_iinc_6 hx (by first | exact nc_I | exact nc_R | exact nc_n) dX6_nextMark_82 ?_
            refine V_goto (tgt := 14) hx dX6_nextMark_85 (by decide) ?_
            refine V_drop_7 ?_
            refine V_drop_8 ?_
            first
              | exact ih i _ ⟨(bstL_y hi0 (hpi.mp (by omega)) (Or.inl (by omega))).symm, fun _ => rfl, by omega⟩
              | exact ih i _ ⟨(bstL_y hi0 (hpi.mp (by omega)) (Or.inr (by rw [← eb]; have := em (by omega); omega))).symm, fun _ => rfl, by omega⟩
              | exact ih b m ⟨by rw [bstL_n hi0 (fun q => by rw [← eb] at q; first | exact absurd (hpi.mpr q.1) (by omega) | (rcases q.2 with q | q; omega; have := em (by omega); omega))]; exact eb, em, mr⟩
      · refine V_goto (tgt := 82) hx dX6_nextMark_49 (by decide) ?_
        refine V_iinc_6 hx (by first | exact nc_I | exact nc_R | exact nc_n) dX6_nextMark_82 ?_
        refine V_goto (tgt := 14) hx dX6_nextMark_85 (by decide) ?_
        refine V_drop_7 ?_
        refine V_drop_8 ?_
        first
          | exact ih i _ ⟨(bstL_y hi0 (hpi.mp (by omega)) (Or.inl (by omega))).symm, fun _ => rfl, by omega⟩
          | exact ih i _ ⟨(bstL_y hi0 (hpi.mp (by omega)) (Or.inr (by rw [← eb]; have := em (by omega); omega))).symm, fun _ => rfl, by omega⟩
          | exact ih b m ⟨by rw [bstL_n hi0 (fun q => by rw [← eb] at q; first | exact absurd (hpi.mpr q.1) (by omega) | (rcases q.2 with q | q; omega; have := em (by omega); omega))]; exact eb, em, mr⟩

set_option maxRecDepth 8000 in
theorem c_X6_leastOf {l : Launch} {d : Dd} {z : Nat} {N : Int} {I : Mm} {h t : Int} (hN : 67 ≤ N) (hF : Fx I) (hS : StoC I N) (hh : -2147483648 ≤ h ∧ h ≤ 2147483647) (ht : -2147483648 ≤ t ∧ t ≤ 2147483647) : Cn l d z yX6_leastOf cX6_leastOf 10 (some (.object "TurnPort$Word")) 2 45 0 0 [vR z 12, vI h, vI t] N I (pv (vR z (celL I 14 (lsO I h t))) N I) := by
  refine Cn.ofA [(vR z 12, false), (vI h, false), (vI t, false)] [some (vR z 12), some (vI h), some (vI t), none, none, none, none, none, none, none] RX6 (by decide) rfl ⟨cR z 12, rfl, rfl, trivial⟩ (Nat.le_of_ble_eq_true rfl) rfl (fun x ed el hx hini => ?_)
  obtain ⟨hL, hK, hH, hG⟩ := hS
  have hL1 := hL.1
  have hK1 := hK.1
  refine V_null hx dX6_leastOf_0 ?_
  refine V_astore_3 hx (by first | exact nc_I | exact nc_R | exact nc_n) dX6_leastOf_1 ?_
  refine V_lconst (v := 0) hx dX6_leastOf_2 (by decide) ?_
  refine V_lstore_4 hx (by first | exact nc_I | exact nc_R | exact nc_n) dX6_leastOf_3 ?_
  refine V_iconst hx dX6_leastOf_5 ?_
  refine V_istore_6 hx (by first | exact nc_I | exact nc_R | exact nc_n) dX6_leastOf_6 ?_
  refine loop_inv2 (α := Int) (β := Int) 0 (I 13 1) hL1.1 (fun i c m => ∃ b : Int, b = bstL (fun i => I (I 14 i) 2 = h ∧ I (I 14 i) 9 ≤ t) (fun i b => crk I 8 (I 14 i) < crk I 8 (I 14 b)) i.toNat ∧ c = celL I 14 b ∧ (b ≠ -1 → m = crk I 8 (I 14 b)) ∧ (-4611686018427387904 ≤ m ∧ m ≤ 4611686018427387904)) (fun i c m => V x z _ N I 0 0 8 [some (vR z 12), some (vI h), some (vI t), some (vR z c), some (vL m), none, some (vI i), none, none, none] []) ?_ ?_ (-1) 0 ⟨-1, rfl, (celL_n I 14).symm, fun h => absurd rfl h, by omega⟩
  · rintro c m ⟨b, eb, ec, em, mr⟩
    refine V_iload_6 hx dX6_leastOf_8 ?_
    refine V_aload_0 hx dX6_leastOf_10 ?_
    refine V_getRe hx flX6_12 dX6_leastOf_11 rfl (k12 hN) (hF.1 12 0 13 rfl) ?_
    refine V_getIx 1 hx hF flX6_32 dX6_leastOf_14 rfl rfl (k13 hN) (fun r14 => ?_)
    refine V_icmp_ge (tgt := 88) hx dX6_leastOf_17 (by decide) (by omega) (by omega) (fun h17 => ?_) (fun h17 => ?_)
    · refine V_aload_3 hx dX6_leastOf_88 ?_
      refine V_areturn hx dX6_leastOf_89 (by omega) (by omega) ?_
      exact ⟨by rw [ec, eb]; rfl, rfl, rfl⟩
    · exfalso; omega
  · rintro i c m hi0 hi1 ⟨b, eb, ec, em, mr⟩ ih
    have hen := hL.2 i hi0 hi1
    have hsh := wdC hen.1 hen.2
    have hhs := hH i hi0 hi1
    have hbr := bstL_r (fun i => I (I 14 i) 2 = h ∧ I (I 14 i) 9 ≤ t) (fun i b => crk I 8 (I 14 i) < crk I 8 (I 14 b)) i.toNat
    rw [← eb] at hbr
    have hb2 : b = -1 ∨ (0 ≤ b ∧ b < I 13 1) := by rcases hbr with h | ⟨h1, h2, -⟩ <;> omega
    have hcb := celL_r hL hb2
    rw [← ec] at hcb
    have hcr := hcb.1
    refine V_iload_6 hx dX6_leastOf_8 ?_
    refine V_aload_0 hx dX6_leastOf_10 ?_
    refine V_getRe hx flX6_12 dX6_leastOf_11 rfl (k12 hN) (hF.1 12 0 13 rfl) ?_
    refine V_getIx 1 hx hF flX6_32 dX6_leastOf_14 rfl rfl (k13 hN) (fun r14 => ?_)
    refine V_icmp_ge (tgt := 88) hx dX6_leastOf_17 (by decide) (by omega) (by omega) (fun h17 => ?_) (fun h17 => ?_)
    · exfalso; omega
    · refine V_aload_0 hx dX6_leastOf_20 ?_
      refine V_getRe hx flX6_12 dX6_leastOf_21 rfl (k12 hN) (hF.1 12 0 13 rfl) ?_
      refine V_iload_6 hx dX6_leastOf_24 ?_
      refine V_v1P hx el ed (c_X1_at13i hN hF hL (by omega) (by omega)) myX1_at mlX6_36 dX6_leastOf_26 ⟨_, rfl, rfl⟩ (k13 hN) (by decide) (by omega) rfl (by first | exact Nat.le_of_ble_eq_true rfl | simp [vI, vL, vR_cat, Value.category]) ?_
      refine V_astore_7 hx (by first | exact nc_I | exact nc_R | exact nc_n) dX6_leastOf_29 ?_
      refine V_aload_7 hx dX6_leastOf_31 ?_
      refine V_getIx 2 hx hF flX6_59 dX6_leastOf_33 rfl rfl (by assumption) (fun r33 => ?_)
      refine V_iload_1 hx dX6_leastOf_36 ?_
      refine V_icmp_ne (tgt := 82) hx dX6_leastOf_37 (by decide) (by omega) (by omega) (fun h37 => ?_) (fun h37 => ?_)
      · refine V_iinc_6 hx (by first | exact nc_I | exact nc_R | exact nc_n) dX6_leastOf_82 ?_
        refine V_goto (tgt := 8) hx dX6_leastOf_85 (by decide) ?_
        refine V_drop_7 ?_
        refine V_drop_8 ?_
        first
          | exact ih _ _ ⟨i, (bstL_y hi0 ⟨by omega, by assumption⟩ (Or.inl (by omega))).symm, (celL_i hi0).symm, fun _ => rfl, by omega⟩
          | exact ih _ _ ⟨i, (bstL_y hi0 ⟨by omega, by assumption⟩ (Or.inr (by rw [← eb]; have := em (by omega); omega))).symm, (celL_i hi0).symm, fun _ => rfl, by omega⟩
          | exact ih c m ⟨b, by rw [bstL_n hi0 (fun q => by rw [← eb] at q; first | exact absurd q.1.1 (by assumption) | exact absurd q.1.2 (by assumption) | (rcases q.2 with q | q; omega; have := em (by omega); omega))]; exact eb, ec, em, mr⟩
      · refine V_aload_7 hx dX6_leastOf_40 ?_
        refine V_iload_2 hx dX6_leastOf_42 ?_
        refine V_v1P hx el ed (c_X9_isOpen hF (by assumption) (by omega)) myX9_isOpen mlX6_40 dX6_leastOf_43 ⟨_, rfl, rfl⟩ (by assumption) (by decide) (by omega) rfl (by first | exact Nat.le_of_ble_eq_true rfl | simp [vI, vL, vR_cat, Value.category]) ?_
        refine V_ifB_ne (tgt := 52) hx dX6_leastOf_46 (by decide) (fun h46 => ?_) (fun h46 => ?_)
        · refine V_aload_0 hx dX6_leastOf_52 ?_
          refine V_getRe hx flX6_21 dX6_leastOf_53 rfl (k12 hN) (hF.1 12 2 7 rfl) ?_
          refine V_aload_7 hx dX6_leastOf_56 ?_
          refine V_v1K hx el ed (c_X4_rankOf7 hN hF (by assumption)) myX4_rankOf mlX6_77 dX6_leastOf_58 ⟨_, rfl, rfl⟩ (k7 hN) (by decide) (by omega) rfl (by first | exact Nat.le_of_ble_eq_true rfl | simp [vI, vL, vR_cat, Value.category]) (fun r58 => ?_)
          refine V_lstore_8 hx (by first | exact nc_I | exact nc_R | exact nc_n) dX6_leastOf_61 ?_
          refine V_aload_3 hx dX6_leastOf_63 ?_
          refine V_ifnull (tgt := 75) hx dX6_leastOf_64 (by decide) (fun h64 => ?_) (fun h64 => ?_)
          · refine V_aload_7 hx dX6_leastOf_75 ?_
            refine V_astore_3 hx (by first | exact nc_I | exact nc_R | exact nc_n) dX6_leastOf_77 ?_
            refine V_lload_8 hx dX6_leastOf_78 ?_
            refine V_lstore_4 hx (by first | exact nc_I | exact nc_R | exact nc_n) dX6_leastOf_80 ?_
            refine V_iinc_6 hx (by first | exact nc_I | exact nc_R | exact nc_n) dX6_leastOf_82 ?_
            refine V_goto (tgt := 8) hx dX6_leastOf_85 (by decide) ?_
            refine V_drop_7 ?_
            refine V_drop_8 ?_
            first
              | exact ih _ _ ⟨i, (bstL_y hi0 ⟨by omega, by assumption⟩ (Or.inl (by omega))).symm, (celL_i hi0).symm, fun _ => rfl, by omega⟩
              | exact ih _ _ ⟨i, (bstL_y hi0 ⟨by omega, by assumption⟩ (Or.inr (by rw [← eb]; have := em (by omega); omega))).symm, (celL_i hi0).symm, fun _ => rfl, by omega⟩
              | exact ih c m ⟨b, by rw [bstL_n hi0 (fun q => by rw [← eb] at q; first | exact absurd q.1.1 (by assumption) | exact absurd q.1.2 (by assumption) | (rcases q.2 with q | q; omega; have := em (by omega); omega))]; exact eb, ec, em, mr⟩
          · refine V_lload_8 hx dX6_leastOf_67 ?_
            refine V_lload_4 hx dX6_leastOf_69 ?_
            refine V_lif_ge (tgt := 82) hx dX6_leastOf_71 dX6_leastOf_72 (by decide) (by omega) (by omega) (fun h72 => ?_) (fun h72 => ?_)
            · refine V_iinc_6 hx (by first | exact nc_I | exact nc_R | exact nc_n) dX6_leastOf_82 ?_
              refine V_goto (tgt := 8) hx dX6_leastOf_85 (by decide) ?_
              refine V_drop_7 ?_
              refine V_drop_8 ?_
              first
                | exact ih _ _ ⟨i, (bstL_y hi0 ⟨by omega, by assumption⟩ (Or.inl (by omega))).symm, (celL_i hi0).symm, fun _ => rfl, by omega⟩
                | exact ih _ _ ⟨i, (bstL_y hi0 ⟨by omega, by assumption⟩ (Or.inr (by rw [← eb]; have := em (by omega); omega))).symm, (celL_i hi0).symm, fun _ => rfl, by omega⟩
                | exact ih c m ⟨b, by rw [bstL_n hi0 (fun q => by rw [← eb] at q; first | exact absurd q.1.1 (by assumption) | exact absurd q.1.2 (by assumption) | (rcases q.2 with q | q; omega; have := em (by omega); omega))]; exact eb, ec, em, mr⟩
            · refine V_aload_7 hx dX6_leastOf_75 ?_
              refine V_astore_3 hx (by first | exact nc_I | exact nc_R | exact nc_n) dX6_leastOf_77 ?_
              refine V_lload_8 hx dX6_leastOf_78 ?_
              refine V_lstore_4 hx (by first | exact nc_I | exact nc_R | exact nc_n) dX6_leastOf_80 ?_
              refine V_iinc_6 hx (by first | exact nc_I | exact nc_R | exact nc_n) dX6_leastOf_82 ?_
              refine V_goto (tgt := 8) hx dX6_leastOf_85 (by decide) ?_
              refine V_drop_7 ?_
              refine V_drop_8 ?_
              first
                | exact ih _ _ ⟨i, (bstL_y hi0 ⟨by omega, by assumption⟩ (Or.inl (by omega))).symm, (celL_i hi0).symm, fun _ => rfl, by omega⟩
                | exact ih _ _ ⟨i, (bstL_y hi0 ⟨by omega, by assumption⟩ (Or.inr (by rw [← eb]; have := em (by omega); omega))).symm, (celL_i hi0).symm, fun _ => rfl, by omega⟩
                | exact ih c m ⟨b, by rw [bstL_n hi0 (fun q => by rw [← eb] at q; first | exact absurd q.1.1 (by assumption) | exact absurd q.1.2 (by assumption) | (rcases q.2 with q | q; omega; have := em (by omega); omega))]; exact eb, ec, em, mr⟩
        · refine V_goto (tgt := 82) hx dX6_leastOf_49 (by decide) ?_
          refine V_iinc_6 hx (by first | exact nc_I | exact nc_R | exact nc_n) dX6_leastOf_82 ?_
          refine V_goto (tgt := 8) hx dX6_leastOf_85 (by decide) ?_
          refine V_drop_7 ?_
          refine V_drop_8 ?_
          first
            | exact ih _ _ ⟨i, (bstL_y hi0 ⟨by omega, by assumption⟩ (Or.inl (by omega))).symm, (celL_i hi0).symm, fun _ => rfl, by omega⟩
            | exact ih _ _ ⟨i, (bstL_y hi0 ⟨by omega, by assumption⟩ (Or.inr (by rw [← eb]; have := em (by omega); omega))).symm, (celL_i hi0).symm, fun _ => rfl, by omega⟩
            | exact ih c m ⟨b, by rw [bstL_n hi0 (fun q => by rw [← eb] at q; first | exact absurd q.1.1 (by assumption) | exact absurd q.1.2 (by assumption) | (rcases q.2 with q | q; omega; have := em (by omega); omega))]; exact eb, ec, em, mr⟩

set_option maxRecDepth 8000 in
theorem c_X6_greatest {l : Launch} {d : Dd} {z : Nat} {N : Int} {I : Mm} (hN : 67 ≤ N) (hF : Fx I) (hS : StoC I N) : Cn l d z yX6_greatest cX6_greatest 7 (some (.object "TurnPort$Word")) 2 45 0 0 [vR z 12] N I (pv (vR z (celL I 14 (grL I))) N I) := by
  refine Cn.ofA [(vR z 12, false)] [some (vR z 12), none, none, none, none, none, none] RX6 (by decide) rfl ⟨cR z 12, trivial⟩ (Nat.le_of_ble_eq_true rfl) rfl (fun x ed el hx hini => ?_)
  obtain ⟨hL, hK, hH, hG⟩ := hS
  have hL1 := hL.1
  have hK1 := hK.1
  refine V_null hx dX6_greatest_0 ?_
  refine V_astore_1 hx (by first | exact nc_I | exact nc_R | exact nc_n) dX6_greatest_1 ?_
  refine V_lconst (v := 0) hx dX6_greatest_2 (by decide) ?_
  refine V_lstore_2 hx (by first | exact nc_I | exact nc_R | exact nc_n) dX6_greatest_3 ?_
  refine V_iconst hx dX6_greatest_4 ?_
  refine V_istore_4 hx (by first | exact nc_I | exact nc_R | exact nc_n) dX6_greatest_5 ?_
  refine loop_inv2 (α := Int) (β := Int) 0 (I 13 1) hL1.1 (fun i c m => ∃ b : Int, b = bstL (fun _ => True) (fun i b => crk I 8 (I 14 b) ≤ crk I 8 (I 14 i)) i.toNat ∧ c = celL I 14 b ∧ (b ≠ -1 → m = crk I 8 (I 14 b)) ∧ (-4611686018427387904 ≤ m ∧ m ≤ 4611686018427387904)) (fun i c m => V x z _ N I 0 0 7 [some (vR z 12), some (vR z c), some (vL m), none, some (vI i), none, none] []) ?_ ?_ (-1) 0 ⟨-1, rfl, (celL_n I 14).symm, fun h => absurd rfl h, by omega⟩
  · rintro c m ⟨b, eb, ec, em, mr⟩
    refine V_iload_4 hx dX6_greatest_7 ?_
    refine V_aload_0 hx dX6_greatest_9 ?_
    refine V_getRe hx flX6_12 dX6_greatest_10 rfl (k12 hN) (hF.1 12 0 13 rfl) ?_
    refine V_getIx 1 hx hF flX6_32 dX6_greatest_13 rfl rfl (k13 hN) (fun r13 => ?_)
    refine V_icmp_ge (tgt := 67) hx dX6_greatest_16 (by decide) (by omega) (by omega) (fun h16 => ?_) (fun h16 => ?_)
    · refine V_aload_1 hx dX6_greatest_67 ?_
      refine V_areturn hx dX6_greatest_68 (by omega) (by omega) ?_
      exact ⟨by rw [ec, eb]; rfl, rfl, rfl⟩
    · exfalso; omega
  · rintro i c m hi0 hi1 ⟨b, eb, ec, em, mr⟩ ih
    have hen := hL.2 i hi0 hi1
    have hsh := wdC hen.1 hen.2
    have hhs := hH i hi0 hi1
    have hbr := bstL_r (fun _ => True) (fun i b => crk I 8 (I 14 b) ≤ crk I 8 (I 14 i)) i.toNat
    rw [← eb] at hbr
    have hb2 : b = -1 ∨ (0 ≤ b ∧ b < I 13 1) := by rcases hbr with h | ⟨h1, h2, -⟩ <;> omega
    have hcb := celL_r hL hb2
    rw [← ec] at hcb
    have hcr := hcb.1
    refine V_iload_4 hx dX6_greatest_7 ?_
    refine V_aload_0 hx dX6_greatest_9 ?_
    refine V_getRe hx flX6_12 dX6_greatest_10 rfl (k12 hN) (hF.1 12 0 13 rfl) ?_
    refine V_getIx 1 hx hF flX6_32 dX6_greatest_13 rfl rfl (k13 hN) (fun r13 => ?_)
    refine V_icmp_ge (tgt := 67) hx dX6_greatest_16 (by decide) (by omega) (by omega) (fun h16 => ?_) (fun h16 => ?_)
    · exfalso; omega
    · refine V_aload_0 hx dX6_greatest_19 ?_
      refine V_getRe hx flX6_21 dX6_greatest_20 rfl (k12 hN) (hF.1 12 2 7 rfl) ?_
      refine V_aload_0 hx dX6_greatest_23 ?_
      refine V_getRe hx flX6_12 dX6_greatest_24 rfl (k12 hN) (hF.1 12 0 13 rfl) ?_
      refine V_iload_4 hx dX6_greatest_27 ?_
      refine V_v1P hx el ed (c_X1_at13i hN hF hL (by omega) (by omega)) myX1_at mlX6_36 dX6_greatest_29 ⟨_, rfl, rfl⟩ (k13 hN) (by decide) (by omega) rfl (by first | exact Nat.le_of_ble_eq_true rfl | simp [vI, vL, vR_cat, Value.category]) ?_
      refine V_v1K hx el ed (c_X4_rankOf7 hN hF (by assumption)) myX4_rankOf mlX6_77 dX6_greatest_32 ⟨_, rfl, rfl⟩ (k7 hN) (by decide) (by omega) rfl (by first | exact Nat.le_of_ble_eq_true rfl | simp [vI, vL, vR_cat, Value.category]) (fun r32 => ?_)
      refine V_lstore_5 hx (by first | exact nc_I | exact nc_R | exact nc_n) dX6_greatest_35 ?_
      refine V_aload_1 hx dX6_greatest_37 ?_
      refine V_ifnull (tgt := 48) hx dX6_greatest_38 (by decide) (fun h38 => ?_) (fun h38 => ?_)
      · refine V_aload_0 hx dX6_greatest_48 ?_
        refine V_getRe hx flX6_12 dX6_greatest_49 rfl (k12 hN) (hF.1 12 0 13 rfl) ?_
        refine V_iload_4 hx dX6_greatest_52 ?_
        refine V_v1P hx el ed (c_X1_at13i hN hF hL (by omega) (by omega)) myX1_at mlX6_36 dX6_greatest_54 ⟨_, rfl, rfl⟩ (k13 hN) (by decide) (by omega) rfl (by first | exact Nat.le_of_ble_eq_true rfl | simp [vI, vL, vR_cat, Value.category]) ?_
        refine V_astore_1 hx (by first | exact nc_I | exact nc_R | exact nc_n) dX6_greatest_57 ?_
        refine V_lload_5 hx dX6_greatest_58 ?_
        refine V_lstore_2 hx (by first | exact nc_I | exact nc_R | exact nc_n) dX6_greatest_60 ?_
        refine V_iinc_4 hx (by first | exact nc_I | exact nc_R | exact nc_n) dX6_greatest_61 ?_
        refine V_goto (tgt := 7) hx dX6_greatest_64 (by decide) ?_
        refine V_drop_5 ?_
        first
          | exact ih _ _ ⟨i, (bstL_y hi0 trivial (Or.inl (by omega))).symm, (celL_i hi0).symm, fun _ => rfl, by omega⟩
          | exact ih _ _ ⟨i, (bstL_y hi0 trivial (Or.inr (by rw [← eb]; have := em (by omega); omega))).symm, (celL_i hi0).symm, fun _ => rfl, by omega⟩
          | exact ih c m ⟨b, by rw [bstL_n hi0 (fun q => by rw [← eb] at q; (rcases q.2 with q | q; omega; have := em (by omega); omega))]; exact eb, ec, em, mr⟩
      · refine V_lload_5 hx dX6_greatest_41 ?_
        refine V_lload_2 hx dX6_greatest_43 ?_
        refine V_lif_lt (tgt := 61) hx dX6_greatest_44 dX6_greatest_45 (by decide) (by omega) (by omega) (fun h45 => ?_) (fun h45 => ?_)
        · refine V_iinc_4 hx (by first | exact nc_I | exact nc_R | exact nc_n) dX6_greatest_61 ?_
          refine V_goto (tgt := 7) hx dX6_greatest_64 (by decide) ?_
          refine V_drop_5 ?_
          first
            | exact ih _ _ ⟨i, (bstL_y hi0 trivial (Or.inl (by omega))).symm, (celL_i hi0).symm, fun _ => rfl, by omega⟩
            | exact ih _ _ ⟨i, (bstL_y hi0 trivial (Or.inr (by rw [← eb]; have := em (by omega); omega))).symm, (celL_i hi0).symm, fun _ => rfl, by omega⟩
            | exact ih c m ⟨b, by rw [bstL_n hi0 (fun q => by rw [← eb] at q; (rcases q.2 with q | q; omega; have := em (by omega); omega))]; exact eb, ec, em, mr⟩
        · refine V_aload_0 hx dX6_greatest_48 ?_
          refine V_getRe hx flX6_12 dX6_greatest_49 rfl (k12 hN) (hF.1 12 0 13 rfl) ?_
          refine V_iload_4 hx dX6_greatest_52 ?_
          refine V_v1P hx el ed (c_X1_at13i hN hF hL (by omega) (by omega)) myX1_at mlX6_36 dX6_greatest_54 ⟨_, rfl, rfl⟩ (k13 hN) (by decide) (by omega) rfl (by first | exact Nat.le_of_ble_eq_true rfl | simp [vI, vL, vR_cat, Value.category]) ?_
          refine V_astore_1 hx (by first | exact nc_I | exact nc_R | exact nc_n) dX6_greatest_57 ?_
          refine V_lload_5 hx dX6_greatest_58 ?_
          refine V_lstore_2 hx (by first | exact nc_I | exact nc_R | exact nc_n) dX6_greatest_60 ?_
          refine V_iinc_4 hx (by first | exact nc_I | exact nc_R | exact nc_n) dX6_greatest_61 ?_
          refine V_goto (tgt := 7) hx dX6_greatest_64 (by decide) ?_
          refine V_drop_5 ?_
          first
            | exact ih _ _ ⟨i, (bstL_y hi0 trivial (Or.inl (by omega))).symm, (celL_i hi0).symm, fun _ => rfl, by omega⟩
            | exact ih _ _ ⟨i, (bstL_y hi0 trivial (Or.inr (by rw [← eb]; have := em (by omega); omega))).symm, (celL_i hi0).symm, fun _ => rfl, by omega⟩
            | exact ih c m ⟨b, by rw [bstL_n hi0 (fun q => by rw [← eb] at q; (rcases q.2 with q | q; omega; have := em (by omega); omega))]; exact eb, ec, em, mr⟩

set_option maxRecDepth 8000 in
theorem c_X6_fullestStream {l : Launch} {d : Dd} {z : Nat} {N : Int} {I : Mm} (hN : 67 ≤ N) (hF : Fx I) (hS : StoC I N) : Cn l d z yX6_fullestStream cX6_fullestStream 3 (some .int) 1 23 0 0 [vR z 12] N I (pq (fuS I) N I) := by
  refine Cn.ofA [(vR z 12, false)] [some (vR z 12), none, none] RX6 (by decide) rfl ⟨cR z 12, trivial⟩ (Nat.le_of_ble_eq_true rfl) rfl (fun x ed el hx hini => ?_)
  obtain ⟨hL, hK, hH, hG⟩ := hS
  have hL1 := hL.1
  have hK1 := hK.1
  refine V_iconst hx dX6_fullestStream_0 ?_
  refine V_istore_1 hx (by first | exact nc_I | exact nc_R | exact nc_n) dX6_fullestStream_1 ?_
  refine V_iconst hx dX6_fullestStream_2 ?_
  refine V_istore_2 hx (by first | exact nc_I | exact nc_R | exact nc_n) dX6_fullestStream_3 ?_
  refine loop_inv (α := Int) 1 8 (by decide) (fun s f => f = fld (fun f j => cif (cnS I f < cnS I (j + 1)) (j + 1) f) 0 (s - 1).toNat ∧ 0 ≤ f ∧ f ≤ 7) (fun s f => V x z _ N I 0 0 4 [some (vR z 12), some (vI f), some (vI s)] []) ?_ ?_ 0 ⟨rfl, by omega, by omega⟩
  · rintro f ⟨ef, f0, f1⟩
    refine V_iload_2 hx dX6_fullestStream_4 ?_
    refine V_bipush hx dX6_fullestStream_5 (by decide) ?_
    refine V_icmp_ge (tgt := 37) hx dX6_fullestStream_7 (by decide) (by omega) (by omega) (fun h7 => ?_) (fun h7 => ?_)
    · refine V_iload_1 hx dX6_fullestStream_37 ?_
      refine V_ireturn hx dX6_fullestStream_38 (by omega) (by omega) ?_
      have e : fuS I = f := by rw [ef]; rfl
      exact ⟨by rw [e], rfl, rfl, by omega⟩
    · exfalso; omega
  · rintro s f s0 s1 ⟨ef, f0, f1⟩ ih
    have es : fld (fun f j => cif (cnS I f < cnS I (j + 1)) (j + 1) f) 0 (s + 1 - 1).toNat = cif (cnS I f < cnS I s) s f := by
      rw [show s + 1 - 1 = (s - 1) + 1 by omega, fld_s _ _ (by omega), ← ef, show s - 1 + 1 = s by omega]
    have ecs : cnS I s = cntW (fun i => I (I 14 i) 1 = s) (I 13 1).toNat := rfl
    have ecf : cnS I f = cntW (fun i => I (I 14 i) 1 = f) (I 13 1).toNat := rfl
    refine V_iload_2 hx dX6_fullestStream_4 ?_
    refine V_bipush hx dX6_fullestStream_5 (by decide) ?_
    refine V_icmp_ge (tgt := 37) hx dX6_fullestStream_7 (by decide) (by omega) (by omega) (fun h7 => ?_) (fun h7 => ?_)
    · exfalso; omega
    · refine V_aload_0 hx dX6_fullestStream_10 ?_
      refine V_getRe hx flX6_12 dX6_fullestStream_11 rfl (k12 hN) (hF.1 12 0 13 rfl) ?_
      refine V_iload_2 hx dX6_fullestStream_14 ?_
      refine V_v1Q hx el ed (c_X1_countOf13 hN hF hL (by omega)) myX1_countOf mlX6_94 dX6_fullestStream_15 ⟨_, rfl, rfl⟩ (k13 hN) (by decide) (by omega) rfl (by first | exact Nat.le_of_ble_eq_true rfl | simp [vI, vL, vR_cat, Value.category]) (fun r15 => ?_)
      refine V_aload_0 hx dX6_fullestStream_18 ?_
      refine V_getRe hx flX6_12 dX6_fullestStream_19 rfl (k12 hN) (hF.1 12 0 13 rfl) ?_
      refine V_iload_1 hx dX6_fullestStream_22 ?_
      refine V_v1Q hx el ed (c_X1_countOf13 hN hF hL (by omega)) myX1_countOf mlX6_94 dX6_fullestStream_23 ⟨_, rfl, rfl⟩ (k13 hN) (by decide) (by omega) rfl (by first | exact Nat.le_of_ble_eq_true rfl | simp [vI, vL, vR_cat, Value.category]) (fun r23 => ?_)
      refine V_icmp_le (tgt := 31) hx dX6_fullestStream_26 (by decide) (by omega) (by omega) (fun h26 => ?_) (fun h26 => ?_)
      · refine V_iinc_2 hx (by first | exact nc_I | exact nc_R | exact nc_n) dX6_fullestStream_31 ?_
        refine V_goto (tgt := 4) hx dX6_fullestStream_34 (by decide) ?_
        first | exact ih f ⟨by rw [es, cif_f (by omega)], f0, f1⟩ | exact ih s ⟨by rw [es, cif_t (by omega)], by omega, by omega⟩
      · refine V_iload_2 hx dX6_fullestStream_29 ?_
        refine V_istore_1 hx (by first | exact nc_I | exact nc_R | exact nc_n) dX6_fullestStream_30 ?_
        refine V_iinc_2 hx (by first | exact nc_I | exact nc_R | exact nc_n) dX6_fullestStream_31 ?_
        refine V_goto (tgt := 4) hx dX6_fullestStream_34 (by decide) ?_
        first | exact ih f ⟨by rw [es, cif_f (by omega)], f0, f1⟩ | exact ih s ⟨by rw [es, cif_t (by omega)], by omega, by omega⟩

set_option maxRecDepth 8000 in
theorem c_X6_latestOf {l : Launch} {d : Dd} {z : Nat} {N : Int} {I : Mm} {s : Int} (hN : 67 ≤ N) (hF : Fx I) (hS : StoC I N) (hs : -2147483648 ≤ s ∧ s ≤ 2147483647) : Cn l d z yX6_latestOf cX6_latestOf 4 (some (.object "TurnPort$Word")) 1 21 0 0 [vR z 12, vI s] N I (pv (vR z (celL I 14 (laO I s))) N I) := by
  refine Cn.ofA [(vR z 12, false), (vI s, false)] [some (vR z 12), some (vI s), none, none] RX6 (by decide) rfl ⟨cR z 12, rfl, trivial⟩ (Nat.le_of_ble_eq_true rfl) rfl (fun x ed el hx hini => ?_)
  obtain ⟨hL, hK, hH, hG⟩ := hS
  have hL1 := hL.1
  have hK1 := hK.1
  refine V_null hx dX6_latestOf_0 ?_
  refine V_astore_2 hx (by first | exact nc_I | exact nc_R | exact nc_n) dX6_latestOf_1 ?_
  refine V_iconst hx dX6_latestOf_2 ?_
  refine V_istore_3 hx (by first | exact nc_I | exact nc_R | exact nc_n) dX6_latestOf_3 ?_
  refine loop_inv (α := Int) 0 (I 13 1) hL1.1 (fun i c => c = celL I 14 (lstL (fun i => I (I 14 i) 1 = s) i.toNat)) (fun i c => V x z _ N I 0 0 4 [some (vR z 12), some (vI s), some (vR z c), some (vI i)] []) ?_ ?_ (-1) (celL_n I 14).symm
  · rintro c ec
    refine V_iload_3 hx dX6_latestOf_4 ?_
    refine V_aload_0 hx dX6_latestOf_5 ?_
    refine V_getRe hx flX6_12 dX6_latestOf_6 rfl (k12 hN) (hF.1 12 0 13 rfl) ?_
    refine V_getIx 1 hx hF flX6_32 dX6_latestOf_9 rfl rfl (k13 hN) (fun r9 => ?_)
    refine V_icmp_ge (tgt := 45) hx dX6_latestOf_12 (by decide) (by omega) (by omega) (fun h12 => ?_) (fun h12 => ?_)
    · refine V_aload_2 hx dX6_latestOf_45 ?_
      refine V_areturn hx dX6_latestOf_46 (by omega) (by omega) ?_
      exact ⟨by rw [ec]; rfl, rfl, rfl⟩
    · exfalso; omega
  · rintro i c hi0 hi1 ec ih
    have hen := hL.2 i hi0 hi1
    have hsh := wdC hen.1 hen.2
    have hhs := hH i hi0 hi1
    refine V_iload_3 hx dX6_latestOf_4 ?_
    refine V_aload_0 hx dX6_latestOf_5 ?_
    refine V_getRe hx flX6_12 dX6_latestOf_6 rfl (k12 hN) (hF.1 12 0 13 rfl) ?_
    refine V_getIx 1 hx hF flX6_32 dX6_latestOf_9 rfl rfl (k13 hN) (fun r9 => ?_)
    refine V_icmp_ge (tgt := 45) hx dX6_latestOf_12 (by decide) (by omega) (by omega) (fun h12 => ?_) (fun h12 => ?_)
    · exfalso; omega
    · refine V_aload_0 hx dX6_latestOf_15 ?_
      refine V_getRe hx flX6_12 dX6_latestOf_16 rfl (k12 hN) (hF.1 12 0 13 rfl) ?_
      refine V_iload_3 hx dX6_latestOf_19 ?_
      refine V_v1P hx el ed (c_X1_at13i hN hF hL (by omega) (by omega)) myX1_at mlX6_36 dX6_latestOf_20 ⟨_, rfl, rfl⟩ (k13 hN) (by decide) (by omega) rfl (by first | exact Nat.le_of_ble_eq_true rfl | simp [vI, vL, vR_cat, Value.category]) ?_
      refine V_getIx 1 hx hF flX6_97 dX6_latestOf_23 rfl rfl (by assumption) (fun r23 => ?_)
      refine V_iload_1 hx dX6_latestOf_26 ?_
      refine V_icmp_ne (tgt := 39) hx dX6_latestOf_27 (by decide) (by omega) (by omega) (fun h27 => ?_) (fun h27 => ?_)
      · refine V_iinc_3 hx (by first | exact nc_I | exact nc_R | exact nc_n) dX6_latestOf_39 ?_
        refine V_goto (tgt := 4) hx dX6_latestOf_42 (by decide) ?_
        first | exact ih c (by rw [lstL_s _ hi0, cif_f (by assumption)]; exact ec) | exact ih _ (by rw [lstL_s _ hi0, cif_t (by omega), celL_i hi0])
      · refine V_aload_0 hx dX6_latestOf_30 ?_
        refine V_getRe hx flX6_12 dX6_latestOf_31 rfl (k12 hN) (hF.1 12 0 13 rfl) ?_
        refine V_iload_3 hx dX6_latestOf_34 ?_
        refine V_v1P hx el ed (c_X1_at13i hN hF hL (by omega) (by omega)) myX1_at mlX6_36 dX6_latestOf_35 ⟨_, rfl, rfl⟩ (k13 hN) (by decide) (by omega) rfl (by first | exact Nat.le_of_ble_eq_true rfl | simp [vI, vL, vR_cat, Value.category]) ?_
        refine V_astore_2 hx (by first | exact nc_I | exact nc_R | exact nc_n) dX6_latestOf_38 ?_
        refine V_iinc_3 hx (by first | exact nc_I | exact nc_R | exact nc_n) dX6_latestOf_39 ?_
        refine V_goto (tgt := 4) hx dX6_latestOf_42 (by decide) ?_
        first | exact ih c (by rw [lstL_s _ hi0, cif_f (by assumption)]; exact ec) | exact ih _ (by rw [lstL_s _ hi0, cif_t (by omega), celL_i hi0])

set_option maxRecDepth 8000 in
theorem c_X6_latestMark {l : Launch} {d : Dd} {z : Nat} {N : Int} {I : Mm} {h : Int} (hN : 67 ≤ N) (hF : Fx I) (hS : StoC I N) (hh : -2147483648 ≤ h ∧ h ≤ 2147483647) : Cn l d z yX6_latestMark cX6_latestMark 4 (some .int) 1 21 0 0 [vR z 12, vI h] N I (pq (laM I h) N I) := by
  refine Cn.ofA [(vR z 12, false), (vI h, false)] [some (vR z 12), some (vI h), none, none] RX6 (by decide) rfl ⟨cR z 12, rfl, trivial⟩ (Nat.le_of_ble_eq_true rfl) rfl (fun x ed el hx hini => ?_)
  obtain ⟨hL, hK, hH, hG⟩ := hS
  have hL1 := hL.1
  have hK1 := hK.1
  refine V_iconst hx dX6_latestMark_0 ?_
  refine V_istore_2 hx (by first | exact nc_I | exact nc_R | exact nc_n) dX6_latestMark_1 ?_
  refine V_iconst hx dX6_latestMark_2 ?_
  refine V_istore_3 hx (by first | exact nc_I | exact nc_R | exact nc_n) dX6_latestMark_3 ?_
  refine loop_inv (α := Int) 0 (I 15 1) hK1.1 (fun i c => c = lstL (fun i => I (I 16 i) 2 = h) i.toNat) (fun i c => V x z _ N I 0 0 4 [some (vR z 12), some (vI h), some (vI c), some (vI i)] []) ?_ ?_ (-1) rfl
  · rintro c ec
    refine V_iload_3 hx dX6_latestMark_4 ?_
    refine V_aload_0 hx dX6_latestMark_5 ?_
    refine V_getRe hx flX6_18 dX6_latestMark_6 rfl (k12 hN) (hF.1 12 1 15 rfl) ?_
    refine V_getIx 1 hx hF flX6_32 dX6_latestMark_9 rfl rfl (k15 hN) (fun r9 => ?_)
    refine V_icmp_ge (tgt := 38) hx dX6_latestMark_12 (by decide) (by omega) (by omega) (fun h12 => ?_) (fun h12 => ?_)
    · refine V_iload_2 hx dX6_latestMark_38 ?_
      refine V_ireturn hx dX6_latestMark_39 (by omega) (by omega) ?_
      have e : laM I h = c := by rw [ec]; rfl
      exact ⟨by rw [e], rfl, rfl, by rw [e, ec]; rcases lstL_r (fun i => I (I 16 i) 2 = h) (I 15 1).toNat with q | ⟨h1, h2, -⟩ <;> omega⟩
    · exfalso; omega
  · rintro i c hi0 hi1 ec ih
    have hen := hK.2 i hi0 hi1
    have hsh := wdC hen.1 hen.2
    have hhs := hG i hi0 hi1
    refine V_iload_3 hx dX6_latestMark_4 ?_
    refine V_aload_0 hx dX6_latestMark_5 ?_
    refine V_getRe hx flX6_18 dX6_latestMark_6 rfl (k12 hN) (hF.1 12 1 15 rfl) ?_
    refine V_getIx 1 hx hF flX6_32 dX6_latestMark_9 rfl rfl (k15 hN) (fun r9 => ?_)
    refine V_icmp_ge (tgt := 38) hx dX6_latestMark_12 (by decide) (by omega) (by omega) (fun h12 => ?_) (fun h12 => ?_)
    · exfalso; omega
    · refine V_aload_0 hx dX6_latestMark_15 ?_
      refine V_getRe hx flX6_18 dX6_latestMark_16 rfl (k12 hN) (hF.1 12 1 15 rfl) ?_
      refine V_iload_3 hx dX6_latestMark_19 ?_
      refine V_v1P hx el ed (c_X1_at15i hN hF hK (by omega) (by omega)) myX1_at mlX6_36 dX6_latestMark_20 ⟨_, rfl, rfl⟩ (k15 hN) (by decide) (by omega) rfl (by first | exact Nat.le_of_ble_eq_true rfl | simp [vI, vL, vR_cat, Value.category]) ?_
      refine V_getIx 2 hx hF flX6_59 dX6_latestMark_23 rfl rfl (by assumption) (fun r23 => ?_)
      refine V_iload_1 hx dX6_latestMark_26 ?_
      refine V_icmp_ne (tgt := 32) hx dX6_latestMark_27 (by decide) (by omega) (by omega) (fun h27 => ?_) (fun h27 => ?_)
      · refine V_iinc_3 hx (by first | exact nc_I | exact nc_R | exact nc_n) dX6_latestMark_32 ?_
        refine V_goto (tgt := 4) hx dX6_latestMark_35 (by decide) ?_
        first | exact ih c (by rw [lstL_s _ hi0, cif_f (by assumption)]; exact ec) | exact ih _ (by rw [lstL_s _ hi0, cif_t (by omega)])
      · refine V_iload_3 hx dX6_latestMark_30 ?_
        refine V_istore_2 hx (by first | exact nc_I | exact nc_R | exact nc_n) dX6_latestMark_31 ?_
        refine V_iinc_3 hx (by first | exact nc_I | exact nc_R | exact nc_n) dX6_latestMark_32 ?_
        refine V_goto (tgt := 4) hx dX6_latestMark_35 (by decide) ?_
        first | exact ih c (by rw [lstL_s _ hi0, cif_f (by assumption)]; exact ec) | exact ih _ (by rw [lstL_s _ hi0, cif_t (by omega)])

