set_option maxRecDepth 8000 in
theorem c_X8_readNumber {l : Launch} {d : Dd} {z : Nat} {N : Int} {I : Mm} (hN : 67 ≤ N) (hF : Fx I) (hT : TpC I) (ha : 0 ≤ I 4 2 ∧ I 4 2 ≤ I 4 1) : Cn l d z yX8_readNumber cX8_readNumber 3 (some .int) 2 42 0 0 [vR z 4] N I (pI (fun r N' I' => N' = N ∧ Fx I' ∧ I' = up I 4 2 (skf (I 5) (I 4 1) (dgt (I 5) (I 4 1) 40 0 (I 4 2)).2) ∧ nuR r (dgt (I 5) (I 4 1) 40 0 (I 4 2)).1 ∧ 0 ≤ r ∧ r ≤ 1000)) := by
  refine Cn.ofA [(vR z 4, false)] [some (vR z 4), none, none] RX8 (by decide) rfl ⟨cR z 4, trivial⟩ (Nat.le_of_ble_eq_true rfl) rfl (fun x ed el hx hini => ?_)
  have hl := hT.1
  refine V_iconst hx dX8_readNumber_0 ?_
  refine V_istore_1 hx (by first | exact nc_I | exact nc_R | exact nc_n) dX8_readNumber_1 ?_
  refine V_aload_0 hx dX8_readNumber_2 ?_
  refine V_getIx 2 hx hF flX8_33 dX8_readNumber_3 rfl rfl (k4 hN) (fun r3 => ?_)
  refine V_istore_2 hx (by first | exact nc_I | exact nc_R | exact nc_n) dX8_readNumber_6 ?_
  have EXIT : ∀ i v vm : Int, dgt (I 5) (I 4 1) 40 0 (I 4 2) = (vm, i) → nuR v vm → 0 ≤ v → v ≤ 1000 → 0 ≤ i → i ≤ I 4 1 → V x z (pI (fun r N' I' => N' = N ∧ Fx I' ∧ I' = up I 4 2 (skf (I 5) (I 4 1) (dgt (I 5) (I 4 1) 40 0 (I 4 2)).2) ∧ nuR r (dgt (I 5) (I 4 1) 40 0 (I 4 2)).1 ∧ 0 ≤ r ∧ r ≤ 1000)) N I 0 0 52 [some (vR z 4), some (vI v), some (vI i)] [] := by
    intro i v vm eD hv v0 v1 i0 i1
    refine V_aload_0 hx dX8_readNumber_52 ?_
    refine V_iload_2 hx dX8_readNumber_53 ?_
    refine V_v1N hx el ed (c_X8_goTo hN hF hT (by omega)) myX8_goTo mlX8_29 dX8_readNumber_54 ⟨_, rfl, rfl⟩ (k4 hN) (by decide) (by omega) rfl (by first | exact Nat.le_of_ble_eq_true rfl | simp [vI, vL, vR_cat, Value.category]) (fun N1 I1 ⟨eN, eI, hF⟩ => ?_)
    subst eN; subst eI
    refine V_iload_1 hx dX8_readNumber_57 ?_
    refine V_ireturn hx dX8_readNumber_58 (by omega) (by omega) ?_
    exact ⟨_, rfl, rfl, hF, by rw [eD], by rw [eD]; exact hv, v0, v1⟩
  have LOOP : ∀ (f : Nat) (i v vm : Int), (I 4 1 - i).toNat ≤ f → dgt (I 5) (I 4 1) f vm i = dgt (I 5) (I 4 1) 40 0 (I 4 2) → nuR v vm → 0 ≤ v → v ≤ 1000 → 0 ≤ vm → vm ≤ 999 → 0 ≤ i → i ≤ I 4 1 → V x z (pI (fun r N' I' => N' = N ∧ Fx I' ∧ I' = up I 4 2 (skf (I 5) (I 4 1) (dgt (I 5) (I 4 1) 40 0 (I 4 2)).2) ∧ nuR r (dgt (I 5) (I 4 1) 40 0 (I 4 2)).1 ∧ 0 ≤ r ∧ r ≤ 1000)) N I 0 0 7 [some (vR z 4), some (vI v), some (vI i)] [] := by
    intro f
    induction f with
    | zero =>
      intro i v vm hf eD hv v0 v1 m0 m1 i0 i1
      refine V_iload_2 hx dX8_readNumber_7 ?_
      refine V_aload_0 hx dX8_readNumber_8 ?_
      refine V_getIx 1 hx hF flX8_19 dX8_readNumber_9 rfl rfl (k4 hN) (fun r9 => ?_)
      refine V_icmp_ge (tgt := 52) hx dX8_readNumber_12 (by decide) (by omega) (by omega) (fun h12 => ?_) (fun h12 => ?_)
      · exact EXIT i v vm eD.symm hv v0 v1 i0 i1
      · exfalso; omega
    | succ f ih =>
      intro i v vm hf eD hv v0 v1 m0 m1 i0 i1
      rw [dgt] at eD
      by_cases hvm : 99 < vm
      · refine V_iload_2 hx dX8_readNumber_7 ?_
        refine V_aload_0 hx dX8_readNumber_8 ?_
        refine V_getIx 1 hx hF flX8_19 dX8_readNumber_9 rfl rfl (k4 hN) (fun r9 => ?_)
        refine V_icmp_ge (tgt := 52) hx dX8_readNumber_12 (by decide) (by omega) (by omega) (fun h12 => ?_) (fun h12 => ?_)
        · rw [cif_f (by omega)] at eD
          exact EXIT i v vm eD.symm hv v0 v1 i0 i1
        · have hs := (sg0_b hT (a := i) (by omega)).2.1 (by omega)
          refine V_aload_0 hx dX8_readNumber_15 ?_
          refine V_iload_2 hx dX8_readNumber_16 ?_
          refine V_v1Q hx el ed (c_X8_signAt hN hF hT (by omega)) myX8_signAt mlX8_44 dX8_readNumber_17 ⟨_, rfl, rfl⟩ (k4 hN) (by decide) (by omega) rfl (by first | exact Nat.le_of_ble_eq_true rfl | simp [vI, vL, vR_cat, Value.category]) (fun r17 => ?_)
          refine V_s1P hx el ed (c_X8_isDigit (by omega)) myX8_isDigit mlX8_47 dX8_readNumber_20 (by decide) (by omega) rfl (by first | exact Nat.le_of_ble_eq_true rfl | simp [vI, vL, vR_cat, Value.category]) ?_
          refine V_ifB_eq (tgt := 52) hx dX8_readNumber_23 (by decide) (fun h23 => ?_) (fun h23 => ?_)
          · rw [cif_f (by omega)] at eD
            exact EXIT i v vm eD.symm hv v0 v1 i0 i1
          · refine V_sipush hx dX8_readNumber_26 (by decide) ?_
            refine V_bipush hx dX8_readNumber_29 (by decide) ?_
            refine V_iload_1 hx dX8_readNumber_31 ?_
            refine V_imul hx dX8_readNumber_32 ?_
            refine V_aload_0 hx dX8_readNumber_33 ?_
            refine V_iload_2 hx dX8_readNumber_34 ?_
            refine V_v1Q hx el ed (c_X8_signAt hN hF hT (by omega)) myX8_signAt mlX8_44 dX8_readNumber_35 ⟨_, rfl, rfl⟩ (k4 hN) (by decide) (by omega) rfl (by first | exact Nat.le_of_ble_eq_true rfl | simp [vI, vL, vR_cat, Value.category]) (fun r35 => ?_)
            refine V_iadd hx dX8_readNumber_38 ?_
            refine V_bipush hx dX8_readNumber_39 (by decide) ?_
            refine V_isub hx dX8_readNumber_41 ?_
            refine V_s2Q hx el ed (c_J9_min_7cf53 (by omega) (by omega)) myJ9_min_7cf53 mlX8_62 dX8_readNumber_42 (by decide) (by omega) rfl (by first | exact Nat.le_of_ble_eq_true rfl | simp [vI, vL, vR_cat, Value.category]) (fun r42 => ?_)
            refine V_istore_1 hx (by first | exact nc_I | exact nc_R | exact nc_n) dX8_readNumber_45 ?_
            refine V_iinc_2 hx (by first | exact nc_I | exact nc_R | exact nc_n) dX8_readNumber_46 ?_
            refine V_goto (tgt := 7) hx dX8_readNumber_49 (by decide) ?_
            rw [cif_t (by omega)] at eD
            unfold nuR at hv
            first
              | (rw [cif_t (show 99 < vm by omega)] at eD; exact ih _ _ _ (by omega) eD (Or.inr ⟨by omega, by omega⟩) (by omega) (by omega) (by omega) (by omega) (by omega) (by omega))
              | (rw [cif_f (show ¬ 99 < vm by omega)] at eD; exact ih _ _ _ (by omega) eD (Or.inl (by omega)) (by omega) (by omega) (by omega) (by omega) (by omega) (by omega))
      · refine V_iload_2 hx dX8_readNumber_7 ?_
        refine V_aload_0 hx dX8_readNumber_8 ?_
        refine V_getIx 1 hx hF flX8_19 dX8_readNumber_9 rfl rfl (k4 hN) (fun r9 => ?_)
        refine V_icmp_ge (tgt := 52) hx dX8_readNumber_12 (by decide) (by omega) (by omega) (fun h12 => ?_) (fun h12 => ?_)
        · rw [cif_f (by omega)] at eD
          exact EXIT i v vm eD.symm hv v0 v1 i0 i1
        · have hs := (sg0_b hT (a := i) (by omega)).2.1 (by omega)
          refine V_aload_0 hx dX8_readNumber_15 ?_
          refine V_iload_2 hx dX8_readNumber_16 ?_
          refine V_v1Q hx el ed (c_X8_signAt hN hF hT (by omega)) myX8_signAt mlX8_44 dX8_readNumber_17 ⟨_, rfl, rfl⟩ (k4 hN) (by decide) (by omega) rfl (by first | exact Nat.le_of_ble_eq_true rfl | simp [vI, vL, vR_cat, Value.category]) (fun r17 => ?_)
          refine V_s1P hx el ed (c_X8_isDigit (by omega)) myX8_isDigit mlX8_47 dX8_readNumber_20 (by decide) (by omega) rfl (by first | exact Nat.le_of_ble_eq_true rfl | simp [vI, vL, vR_cat, Value.category]) ?_
          refine V_ifB_eq (tgt := 52) hx dX8_readNumber_23 (by decide) (fun h23 => ?_) (fun h23 => ?_)
          · rw [cif_f (by omega)] at eD
            exact EXIT i v vm eD.symm hv v0 v1 i0 i1
          · refine V_sipush hx dX8_readNumber_26 (by decide) ?_
            refine V_bipush hx dX8_readNumber_29 (by decide) ?_
            refine V_iload_1 hx dX8_readNumber_31 ?_
            refine V_imul hx dX8_readNumber_32 ?_
            refine V_aload_0 hx dX8_readNumber_33 ?_
            refine V_iload_2 hx dX8_readNumber_34 ?_
            refine V_v1Q hx el ed (c_X8_signAt hN hF hT (by omega)) myX8_signAt mlX8_44 dX8_readNumber_35 ⟨_, rfl, rfl⟩ (k4 hN) (by decide) (by omega) rfl (by first | exact Nat.le_of_ble_eq_true rfl | simp [vI, vL, vR_cat, Value.category]) (fun r35 => ?_)
            refine V_iadd hx dX8_readNumber_38 ?_
            refine V_bipush hx dX8_readNumber_39 (by decide) ?_
            refine V_isub hx dX8_readNumber_41 ?_
            refine V_s2Q hx el ed (c_J9_min_7cf53 (by omega) (by omega)) myJ9_min_7cf53 mlX8_62 dX8_readNumber_42 (by decide) (by omega) rfl (by first | exact Nat.le_of_ble_eq_true rfl | simp [vI, vL, vR_cat, Value.category]) (fun r42 => ?_)
            refine V_istore_1 hx (by first | exact nc_I | exact nc_R | exact nc_n) dX8_readNumber_45 ?_
            refine V_iinc_2 hx (by first | exact nc_I | exact nc_R | exact nc_n) dX8_readNumber_46 ?_
            refine V_goto (tgt := 7) hx dX8_readNumber_49 (by decide) ?_
            rw [cif_t (by omega)] at eD
            unfold nuR at hv
            first
              | (rw [cif_t (show 99 < vm by omega)] at eD; exact ih _ _ _ (by omega) eD (Or.inr ⟨by omega, by omega⟩) (by omega) (by omega) (by omega) (by omega) (by omega) (by omega))
              | (rw [cif_f (show ¬ 99 < vm by omega)] at eD; exact ih _ _ _ (by omega) eD (Or.inl (by omega)) (by omega) (by omega) (by omega) (by omega) (by omega) (by omega))
  exact LOOP 40 _ _ 0 (by omega) rfl (Or.inl rfl) (by omega) (by omega) (by omega) (by omega) (by omega) (by omega)

set_option maxRecDepth 8000 in
theorem c_X8_readTerm {l : Launch} {d : Dd} {z : Nat} {N : Int} {I : Mm} {e : Ee} {f1 k : Int} (hN : 67 ≤ N) (hF : Fx I) (hE : HE d z e) (hT : TpC I) (ha : 0 ≤ I 4 2 ∧ I 4 2 ≤ I 4 1) (hat : skf (I 5) (I 4 1) (I 4 2) = I 4 2) (hwb : ∀ q : Int, 0 ≤ q → q ≤ 5 → -594 ≤ I 6 q ∧ I 6 q ≤ 594) (hk : (f1 = 1 ∧ k = 0) ∨ (f1 = 0 ∧ 1 ≤ k ∧ k ≤ 5)) : Cn l d z yX8_readTerm cX8_readTerm 6 (some .int) 8 183 0 0 [vR z 4, vR z 6, vI f1] N I (pI (fun r N' I' => N' = N ∧ Fx I' ∧ trR I k r I' ∧ -100 ≤ r ∧ r ≤ 0)) := by
  refine Cn.ofA [(vR z 4, false), (vR z 6, false), (vI f1, false)] [some (vR z 4), some (vR z 6), some (vI f1), none, none, none] RX8 (by decide) rfl ⟨cR z 4, cR z 6, rfl, trivial⟩ (Nat.le_of_ble_eq_true rfl) rfl (fun x ed el hx hini => ?_)
  have hl := hT.1
  have REST2 : ∀ a5 v sg : Int, Fx (up I 4 2 a5) → 0 ≤ a5 → a5 ≤ I 4 1 → I 4 2 ≤ a5 → skf (I 5) (I 4 1) a5 = a5 → (sg = 1 ∨ sg = -1) → 1 ≤ v → v ≤ 99 → trm (I 5) (I 4 1) k (I 4 2) = tlq (I 5) (I 4 1) a5 v sg → V x z (pI (fun r N' I' => N' = N ∧ Fx I' ∧ trR I k r I' ∧ -100 ≤ r ∧ r ≤ 0)) N (up I 4 2 a5) 0 0 118 [some (vR z 4), some (vR z 6), some (vI f1), some (vI sg), some (vI v), none] [] := by
    intro a5 v sg hF p0 p1 p2 psk hsg v0 v1 hq
    obtain ⟨-, -, -, -, hR, ⟨s1, s2, s3, s4⟩, -⟩ := hx.ex ed hE
    have hT1 : TpC (up I 4 2 a5) := by
      refine ⟨by rw [up_k (by decide)]; exact hT.1, fun q a b => ?_⟩
      rw [up_k (by decide)] at b
      rw [up_c (by decide)]
      exact hT.2 q a b
    have e5 : up I 4 2 a5 5 = I 5 := up_row (by decide)
    have e41 : up I 4 2 a5 4 1 = I 4 1 := up_k (by decide)
    have e42 : up I 4 2 a5 4 2 = a5 := up_s _ _ _ _
    have hix := ixF_sg hT (a := a5) p0
    have hs := sg0_b hT (a := a5) p0
    have hsm : sg * v = v ∨ sg * v = -v := by rcases hsg with rfl | rfl <;> omega
    refine V_ldcS hx hR dX8_readTerm_118 ?_
    refine V_aload_0 hx dX8_readTerm_120 ?_
    refine V_aload_0 hx dX8_readTerm_121 ?_
    skip
    refine V_getIx 2 hx hF flX8_33 dX8_readTerm_122 rfl rfl (k4 hN) (fun r122 => ?_)
    (try simp only [up_s, up_c, up_row, up_k, ne_eq, Int.reduceEq, not_false_eq_true] at r122 ⊢)
    refine V_v1Q hx el ed (c_X8_signAt hN hF hT1 (by omega)) myX8_signAt mlX8_44 dX8_readTerm_125 ⟨_, rfl, rfl⟩ (k4 hN) (by decide) (by omega) rfl (by first | exact Nat.le_of_ble_eq_true rfl | simp [vI, vL, vR_cat, Value.category]) (fun r125 => ?_)
    rw [e5, e41]
    (try simp only [up_s, up_c, up_row, up_k, ne_eq, Int.reduceEq, not_false_eq_true] at r125 ⊢)
    refine V_i2c hx (sg0 (I 5) (I 4 1) a5) dX8_readTerm_128 (oI_i2cs (by omega)) ?_
    refine V_invO [vI (sg0 (I 5) (I 4 1) a5)] hx el ed (c_ix1 hE (by omega)) myJ0_indexOf_0f7a4 mlX8_57 dX8_readTerm_129 s1 (by decide) (by omega) rfl rfl (Nat.le_of_ble_eq_true rfl) ?_
    rintro _ _ _ ⟨rfl, rfl, rfl⟩
    show V x z _ _ _ _ _ _ _ (vI (ixF (sg0 (I 5) (I 4 1) a5)) :: [])
    refine V_istore_5 hx (by first | exact nc_I | exact nc_R | exact nc_n) dX8_readTerm_132 ?_
    refine V_iload_5 hx dX8_readTerm_134 ?_
    refine V_if_lt (tgt := 146) hx dX8_readTerm_136 (by decide) (by omega) (fun h136 => ?_) (fun h136 => ?_)
    · refine V_aload_0 hx dX8_readTerm_146 ?_
      refine V_getIx 2 hx hF flX8_33 dX8_readTerm_147 rfl rfl (k4 hN) (fun r147 => ?_)
      (try simp only [up_s, up_c, up_row, up_k, ne_eq, Int.reduceEq, not_false_eq_true] at r147 ⊢)
      refine V_s1P hx el ed c_X8_faultAt myX8_faultAt mlX8_40 dX8_readTerm_150 (by decide) (by omega) rfl (by first | exact Nat.le_of_ble_eq_true rfl | simp [vI, vL, vR_cat, Value.category]) ?_
      refine V_ireturn hx dX8_readTerm_153 (by omega) (by omega) ?_
      have et : trm (I 5) (I 4 1) k (I 4 2) = (-1, a5, 0) := by rw [hq]; unfold tlq; rw [cif_t (by omega)]
      exact ⟨_, rfl, rfl, hF, ⟨fun _ => by rw [et]; exact ⟨rfl, fun a q h => up_n (by omega)⟩, fun h => absurd (by rw [et]) h⟩, by omega, by omega⟩
    · refine V_iload_5 hx dX8_readTerm_139 ?_
      refine V_aload_1 hx dX8_readTerm_141 ?_
      refine V_alen hx dX8_readTerm_142 (k6 hN) (by unfold tyK; omega) ?_
      refine V_icmp_lt (tgt := 154) hx dX8_readTerm_143 (by decide) (by omega) (by omega) (fun h143 => ?_) (fun h143 => ?_)
      · have hw6 := hwb (ixF (sg0 (I 5) (I 4 1) a5)) (by omega) (by omega)
        refine V_aload_1 hx dX8_readTerm_154 ?_
        refine V_iload_5 hx dX8_readTerm_155 ?_
        refine V_dup2 hx dX8_readTerm_157 ?_
        refine V_ialoadx hx hF dX8_readTerm_158 (k6 hN) (by decide) (by omega) (fun r158 => ?_)
        (try simp only [up_s, up_c, up_row, up_k, ne_eq, Int.reduceEq, not_false_eq_true] at r158 ⊢)
        refine V_iload_3 hx dX8_readTerm_159 ?_
        refine V_iload_4 hx dX8_readTerm_160 ?_
        refine V_imul hx dX8_readTerm_162 ?_
        refine V_iadd hx dX8_readTerm_163 ?_
        refine V_iastorex hx hF dX8_readTerm_164 (k6 hN) (by decide) (by omega) (fx_none rfl _) (by omega) (Or.inl (by decide)) (fun hF => ?_)
        have hT2 : TpC (up (up I 4 2 a5) 6 (ixF (sg0 (I 5) (I 4 1) a5)) (I 6 (ixF (sg0 (I 5) (I 4 1) a5)) + sg * v)) := by
          refine ⟨by rw [up_c (by decide)]; exact hT1.1, fun q a b => ?_⟩
          rw [up_c (by decide)] at b
          rw [up_c (by decide)]
          exact hT1.2 q a b
        refine V_aload_0 hx dX8_readTerm_165 ?_
        refine V_aload_0 hx dX8_readTerm_166 ?_
        refine V_getIx 2 hx hF flX8_33 dX8_readTerm_167 rfl rfl (k4 hN) (fun r167 => ?_)
        (try simp only [up_s, up_c, up_row, up_k, ne_eq, Int.reduceEq, not_false_eq_true] at r167 ⊢)
        refine V_iconst hx dX8_readTerm_170 ?_
        refine V_iadd hx dX8_readTerm_171 ?_
        refine V_v1N hx el ed (c_X8_goTo hN hF hT2 (by rw [up_c (by decide), e41]; omega)) myX8_goTo mlX8_29 dX8_readTerm_172 ⟨_, rfl, rfl⟩ (k4 hN) (by decide) (by omega) rfl (by first | exact Nat.le_of_ble_eq_true rfl | simp [vI, vL, vR_cat, Value.category]) (fun N2 I2 ⟨eN, eI, hF⟩ => ?_)
        refine V_iconst hx dX8_readTerm_175 ?_
        refine V_ireturn hx dX8_readTerm_176 (by omega) (by omega) ?_
        have et : trm (I 5) (I 4 1) k (I 4 2) = (1 + ixF (sg0 (I 5) (I 4 1) a5), a5 + 1, sg * v) := by rw [hq]; unfold tlq; rw [cif_f (by omega), show nmF (sgn (I 5) (I 4 1) a5) = ixF (sg0 (I 5) (I 4 1) a5) by omega]
        refine ⟨_, rfl, eN, hF, ⟨fun h => ?_, fun _ => ?_⟩, by omega, by omega⟩
        · rw [et] at h; dsimp only at h; exfalso; omega
        · rw [et]; dsimp only
          refine ⟨rfl, by omega, by omega, by omega, ?_, fun q => ?_, fun a q ha hq2 => ?_⟩
          · rw [eI]; simp only [up_s, up_c, up_row, up_k, ne_eq, Int.reduceEq, not_false_eq_true]
          · rw [eI, up_c (by decide)]
            by_cases h6 : q = ixF (sg0 (I 5) (I 4 1) a5)
            · rw [h6, up_s, cif_t (by omega)]
            · rw [up_k h6, up_c (by decide), cif_f (by omega)]
          · rw [eI, up_n (by omega), up_c ha, up_n (by omega)]
      · refine V_aload_0 hx dX8_readTerm_146 ?_
        refine V_getIx 2 hx hF flX8_33 dX8_readTerm_147 rfl rfl (k4 hN) (fun r147 => ?_)
        (try simp only [up_s, up_c, up_row, up_k, ne_eq, Int.reduceEq, not_false_eq_true] at r147 ⊢)
        refine V_s1P hx el ed c_X8_faultAt myX8_faultAt mlX8_40 dX8_readTerm_150 (by decide) (by omega) rfl (by first | exact Nat.le_of_ble_eq_true rfl | simp [vI, vL, vR_cat, Value.category]) ?_
        refine V_ireturn hx dX8_readTerm_153 (by omega) (by omega) ?_
        have et : trm (I 5) (I 4 1) k (I 4 2) = (-1, a5, 0) := by rw [hq]; unfold tlq; rw [cif_t (by omega)]
        exact ⟨_, rfl, rfl, hF, ⟨fun _ => by rw [et]; exact ⟨rfl, fun a q h => up_n (by omega)⟩, fun h => absurd (by rw [et]) h⟩, by omega, by omega⟩
  have REST : ∀ a3 sg : Int, Fx (up I 4 2 a3) → 0 ≤ a3 → a3 ≤ I 4 1 → I 4 2 ≤ a3 → skf (I 5) (I 4 1) a3 = a3 → (sg = 1 ∨ sg = -1) → trm (I 5) (I 4 1) k (I 4 2) = tq (I 5) (I 4 1) a3 sg → V x z (pI (fun r N' I' => N' = N ∧ Fx I' ∧ trR I k r I' ∧ -100 ≤ r ∧ r ≤ 0)) N (up I 4 2 a3) 0 0 70 [some (vR z 4), some (vR z 6), some (vI f1), some (vI sg), none, none] [] := by
    intro a3 sg hF p0 p1 p2 psk hsg hq
    have hT1 : TpC (up I 4 2 a3) := by
      refine ⟨by rw [up_k (by decide)]; exact hT.1, fun q a b => ?_⟩
      rw [up_k (by decide)] at b
      rw [up_c (by decide)]
      exact hT.2 q a b
    have e5 : up I 4 2 a3 5 = I 5 := up_row (by decide)
    have e41 : up I 4 2 a3 4 1 = I 4 1 := up_k (by decide)
    have e42 : up I 4 2 a3 4 2 = a3 := up_s _ _ _ _
    have hs := sg0_b hT (a := a3) p0
    have hdb := dgt_b (I 5) (I 4 1) 40 0 a3 (by omega) (by omega) p1
    refine V_iconst hx dX8_readTerm_70 ?_
    refine V_istore_4 hx (by first | exact nc_I | exact nc_R | exact nc_n) dX8_readTerm_71 ?_
    refine V_aload_0 hx dX8_readTerm_73 ?_
    refine V_aload_0 hx dX8_readTerm_74 ?_
    refine V_getIx 2 hx hF flX8_33 dX8_readTerm_75 rfl rfl (k4 hN) (fun r75 => ?_)
    (try simp only [up_s, up_c, up_row, up_k, ne_eq, Int.reduceEq, not_false_eq_true] at r75 ⊢)
    refine V_v1Q hx el ed (c_X8_signAt hN hF hT1 (by omega)) myX8_signAt mlX8_44 dX8_readTerm_78 ⟨_, rfl, rfl⟩ (k4 hN) (by decide) (by omega) rfl (by first | exact Nat.le_of_ble_eq_true rfl | simp [vI, vL, vR_cat, Value.category]) (fun r78 => ?_)
    (try simp only [up_s, up_c, up_row, up_k, ne_eq, Int.reduceEq, not_false_eq_true] at r78 ⊢)
    refine V_s1P hx el ed (c_X8_isDigit (by omega)) myX8_isDigit mlX8_47 dX8_readTerm_81 (by decide) (by omega) rfl (by first | exact Nat.le_of_ble_eq_true rfl | simp [vI, vL, vR_cat, Value.category]) ?_
    refine V_ifB_eq (tgt := 118) hx dX8_readTerm_84 (by decide) (fun h84 => ?_) (fun h84 => ?_)
    · first
        | (have enq : nbq (I 5) (I 4 1) a3 = dgt (I 5) (I 4 1) 40 0 a3 := by unfold nbq; rw [cif_t hdig, cif_f (by omega)]
           refine V_drop_5 ?_
           refine REST2 _ _ _ hF ?_ ?_ ?_ ?_ hsg (by omega) (by omega) ?_
           · have := skf_R (t := I 5) (n := I 4 1) (a := (dgt (I 5) (I 4 1) 40 0 a3).2) hdb.2.2.2; unfold skR at this; omega
           · have := skf_R (t := I 5) (n := I 4 1) (a := (dgt (I 5) (I 4 1) 40 0 a3).2) hdb.2.2.2; unfold skR at this; omega
           · have := skf_R (t := I 5) (n := I 4 1) (a := (dgt (I 5) (I 4 1) 40 0 a3).2) hdb.2.2.2; unfold skR at this; omega
           · exact skf_id hdb.2.2.2
           · rw [hq]; unfold tq; rw [enq, cif_f (by omega), show v = (dgt (I 5) (I 4 1) 40 0 a3).1 by omega])
        | (have enq : nbq (I 5) (I 4 1) a3 = (1, a3) := by unfold nbq; rw [cif_f (by omega)]
           exact REST2 a3 1 sg hF p0 p1 p2 psk hsg (by omega) (by omega) (by rw [hq]; unfold tq; rw [enq]; dsimp only; rw [cif_f (by decide), psk]))
    · refine V_aload_0 hx dX8_readTerm_87 ?_
      refine V_getIx 2 hx hF flX8_33 dX8_readTerm_88 rfl rfl (k4 hN) (fun r88 => ?_)
      (try simp only [up_s, up_c, up_row, up_k, ne_eq, Int.reduceEq, not_false_eq_true] at r88 ⊢)
      refine V_istore_5 hx (by first | exact nc_I | exact nc_R | exact nc_n) dX8_readTerm_91 ?_
      refine V_aload_0 hx dX8_readTerm_93 ?_
      refine V_v0I hx el ed (c_X8_readNumber hN hF hT1 (by rw [e42, e41]; omega)) myX8_readNumber mlX8_51 dX8_readTerm_94 ⟨_, rfl, rfl⟩ (k4 hN) (by decide) (by omega) rfl (by first | exact Nat.le_of_ble_eq_true rfl | simp [vI, vL, vR_cat, Value.category]) (fun v N1 I1 ⟨eN, hF, eI, hv, v0, v1⟩ => ?_)
      rw [e5, e41, e42] at eI hv
      rw [up_uu] at eI
      unfold nuR at hv
      have hdig : a3 < I 4 1 ∧ 48 ≤ I 5 a3 ∧ I 5 a3 ≤ 57 := by omega
      subst eN; subst eI
      refine V_istore_4 hx (by first | exact nc_I | exact nc_R | exact nc_n) dX8_readTerm_97 ?_
      refine V_iload_4 hx dX8_readTerm_99 ?_
      refine V_iconst hx dX8_readTerm_101 ?_
      refine V_icmp_lt (tgt := 112) hx dX8_readTerm_102 (by decide) (by omega) (by omega) (fun h102 => ?_) (fun h102 => ?_)
      · refine V_iload_5 hx dX8_readTerm_112 ?_
        refine V_s1P hx el ed c_X8_faultAt myX8_faultAt mlX8_40 dX8_readTerm_114 (by decide) (by omega) rfl (by first | exact Nat.le_of_ble_eq_true rfl | simp [vI, vL, vR_cat, Value.category]) ?_
        refine V_ireturn hx dX8_readTerm_117 (by omega) (by omega) ?_
        have enq : nbq (I 5) (I 4 1) a3 = (0, a3) := by unfold nbq; rw [cif_t hdig, cif_t (by omega)]
        have et : trm (I 5) (I 4 1) k (I 4 2) = (-1, a3, 0) := by rw [hq]; unfold tq; rw [enq]; dsimp only; rw [cif_t rfl]
        exact ⟨_, rfl, rfl, hF, ⟨fun _ => by rw [et]; exact ⟨rfl, fun a q h => up_n (by omega)⟩, fun h => absurd (by rw [et]) h⟩, by omega, by omega⟩
      · refine V_iload_4 hx dX8_readTerm_105 ?_
        refine V_bipush hx dX8_readTerm_107 (by decide) ?_
        refine V_icmp_le (tgt := 118) hx dX8_readTerm_109 (by decide) (by omega) (by omega) (fun h109 => ?_) (fun h109 => ?_)
        · first
            | (have enq : nbq (I 5) (I 4 1) a3 = dgt (I 5) (I 4 1) 40 0 a3 := by unfold nbq; rw [cif_t hdig, cif_f (by omega)]
               refine V_drop_5 ?_
               refine REST2 _ _ _ hF ?_ ?_ ?_ ?_ hsg (by omega) (by omega) ?_
               · have := skf_R (t := I 5) (n := I 4 1) (a := (dgt (I 5) (I 4 1) 40 0 a3).2) hdb.2.2.2; unfold skR at this; omega
               · have := skf_R (t := I 5) (n := I 4 1) (a := (dgt (I 5) (I 4 1) 40 0 a3).2) hdb.2.2.2; unfold skR at this; omega
               · have := skf_R (t := I 5) (n := I 4 1) (a := (dgt (I 5) (I 4 1) 40 0 a3).2) hdb.2.2.2; unfold skR at this; omega
               · exact skf_id hdb.2.2.2
               · rw [hq]; unfold tq; rw [enq, cif_f (by omega), show v = (dgt (I 5) (I 4 1) 40 0 a3).1 by omega])
            | (have enq : nbq (I 5) (I 4 1) a3 = (1, a3) := by unfold nbq; rw [cif_f (by omega)]
               exact REST2 a3 1 sg hF p0 p1 p2 psk hsg (by omega) (by omega) (by rw [hq]; unfold tq; rw [enq]; dsimp only; rw [cif_f (by decide), psk]))
        · refine V_iload_5 hx dX8_readTerm_112 ?_
          refine V_s1P hx el ed c_X8_faultAt myX8_faultAt mlX8_40 dX8_readTerm_114 (by decide) (by omega) rfl (by first | exact Nat.le_of_ble_eq_true rfl | simp [vI, vL, vR_cat, Value.category]) ?_
          refine V_ireturn hx dX8_readTerm_117 (by omega) (by omega) ?_
          have enq : nbq (I 5) (I 4 1) a3 = (0, a3) := by unfold nbq; rw [cif_t hdig, cif_t (by omega)]
          have et : trm (I 5) (I 4 1) k (I 4 2) = (-1, a3, 0) := by rw [hq]; unfold tq; rw [enq]; dsimp only; rw [cif_t rfl]
          exact ⟨_, rfl, rfl, hF, ⟨fun _ => by rw [et]; exact ⟨rfl, fun a q h => up_n (by omega)⟩, fun h => absurd (by rw [et]) h⟩, by omega, by omega⟩
  have hs := sg0_b hT (a := I 4 2) ha.1
  refine V_aload_0 hx dX8_readTerm_0 ?_
  refine V_aload_0 hx dX8_readTerm_1 ?_
  refine V_getIx 2 hx hF flX8_33 dX8_readTerm_2 rfl rfl (k4 hN) (fun r2 => ?_)
  refine V_v1Q hx el ed (c_X8_signAt hN hF hT (by omega)) myX8_signAt mlX8_44 dX8_readTerm_5 ⟨_, rfl, rfl⟩ (k4 hN) (by decide) (by omega) rfl (by first | exact Nat.le_of_ble_eq_true rfl | simp [vI, vL, vR_cat, Value.category]) (fun r5 => ?_)
  refine V_bipush hx dX8_readTerm_8 (by decide) ?_
  refine V_icmp_ne (tgt := 17) hx dX8_readTerm_10 (by decide) (by omega) (by omega) (fun h10 => ?_) (fun h10 => ?_)
  · refine V_iconst hx dX8_readTerm_17 ?_
    refine V_istore_3 hx (by first | exact nc_I | exact nc_R | exact nc_n) dX8_readTerm_18 ?_
    refine V_aload_0 hx dX8_readTerm_19 ?_
    refine V_aload_0 hx dX8_readTerm_20 ?_
    refine V_getIx 2 hx hF flX8_33 dX8_readTerm_21 rfl rfl (k4 hN) (fun r21 => ?_)
    refine V_v1Q hx el ed (c_X8_signAt hN hF hT (by omega)) myX8_signAt mlX8_44 dX8_readTerm_24 ⟨_, rfl, rfl⟩ (k4 hN) (by decide) (by omega) rfl (by first | exact Nat.le_of_ble_eq_true rfl | simp [vI, vL, vR_cat, Value.category]) (fun r24 => ?_)
    refine V_bipush hx dX8_readTerm_27 (by decide) ?_
    refine V_icmp_eq (tgt := 45) hx dX8_readTerm_29 (by decide) (by omega) (by omega) (fun h29 => ?_) (fun h29 => ?_)
    · refine V_aload_0 hx dX8_readTerm_45 ?_
      refine V_aload_0 hx dX8_readTerm_46 ?_
      refine V_getIx 2 hx hF flX8_33 dX8_readTerm_47 rfl rfl (k4 hN) (fun r47 => ?_)
      refine V_iconst hx dX8_readTerm_50 ?_
      refine V_iadd hx dX8_readTerm_51 ?_
      refine V_v1N hx el ed (c_X8_goTo hN hF hT (by omega)) myX8_goTo mlX8_29 dX8_readTerm_52 ⟨_, rfl, rfl⟩ (k4 hN) (by decide) (by omega) rfl (by first | exact Nat.le_of_ble_eq_true rfl | simp [vI, vL, vR_cat, Value.category]) (fun N1 I1 ⟨eN, eI, hF⟩ => ?_)
      subst eN; subst eI
      refine V_goto (tgt := 70) hx dX8_readTerm_55 (by decide) ?_
      first
        | (exfalso; omega)
        | (have hsk := skf_R (t := I 5) (n := I 4 1) (a := I 4 2 + 1) (by omega)
           unfold skR at hsk
           refine REST (skf (I 5) (I 4 1) (I 4 2 + 1)) (-1) hF (by omega) (by omega) (by omega) (skf_id (by omega)) (by omega) ?_
           rw [trm_q hat (by omega), cif_t (show sgn (I 5) (I 4 1) (I 4 2) = 43 ∨ sgn (I 5) (I 4 1) (I 4 2) = 45 by omega), cif_t (by omega)])
        | (have hsk := skf_R (t := I 5) (n := I 4 1) (a := I 4 2 + 1) (by omega)
           unfold skR at hsk
           refine REST (skf (I 5) (I 4 1) (I 4 2 + 1)) (1) hF (by omega) (by omega) (by omega) (skf_id (by omega)) (by omega) ?_
           rw [trm_q hat (by omega), cif_t (show sgn (I 5) (I 4 1) (I 4 2) = 43 ∨ sgn (I 5) (I 4 1) (I 4 2) = 45 by omega), cif_f (by omega)])
        | (refine V_mem (up I 4 2 (I 4 2)) (up_id I 4 2).symm ?_
           refine REST (I 4 2) 1 (by rw [up_id]; exact hF) (by omega) (by omega) (by omega) hat (by omega) ?_
           rw [trm_q hat (by omega), cif_f (show ¬ (sgn (I 5) (I 4 1) (I 4 2) = 43 ∨ sgn (I 5) (I 4 1) (I 4 2) = 45) by omega), Int.add_zero, hat, cif_f (by omega)])
    · refine V_aload_0 hx dX8_readTerm_32 ?_
      refine V_aload_0 hx dX8_readTerm_33 ?_
      refine V_getIx 2 hx hF flX8_33 dX8_readTerm_34 rfl rfl (k4 hN) (fun r34 => ?_)
      refine V_v1Q hx el ed (c_X8_signAt hN hF hT (by omega)) myX8_signAt mlX8_44 dX8_readTerm_37 ⟨_, rfl, rfl⟩ (k4 hN) (by decide) (by omega) rfl (by first | exact Nat.le_of_ble_eq_true rfl | simp [vI, vL, vR_cat, Value.category]) (fun r37 => ?_)
      refine V_bipush hx dX8_readTerm_40 (by decide) ?_
      refine V_icmp_ne (tgt := 58) hx dX8_readTerm_42 (by decide) (by omega) (by omega) (fun h42 => ?_) (fun h42 => ?_)
      · refine V_iload_2 hx dX8_readTerm_58 ?_
        refine V_if_ne (tgt := 70) hx dX8_readTerm_59 (by decide) (by omega) (fun h59 => ?_) (fun h59 => ?_)
        · first
            | (exfalso; omega)
            | (have hsk := skf_R (t := I 5) (n := I 4 1) (a := I 4 2 + 1) (by omega)
               unfold skR at hsk
               refine REST (skf (I 5) (I 4 1) (I 4 2 + 1)) (-1) hF (by omega) (by omega) (by omega) (skf_id (by omega)) (by omega) ?_
               rw [trm_q hat (by omega), cif_t (show sgn (I 5) (I 4 1) (I 4 2) = 43 ∨ sgn (I 5) (I 4 1) (I 4 2) = 45 by omega), cif_t (by omega)])
            | (have hsk := skf_R (t := I 5) (n := I 4 1) (a := I 4 2 + 1) (by omega)
               unfold skR at hsk
               refine REST (skf (I 5) (I 4 1) (I 4 2 + 1)) (1) hF (by omega) (by omega) (by omega) (skf_id (by omega)) (by omega) ?_
               rw [trm_q hat (by omega), cif_t (show sgn (I 5) (I 4 1) (I 4 2) = 43 ∨ sgn (I 5) (I 4 1) (I 4 2) = 45 by omega), cif_f (by omega)])
            | (refine V_mem (up I 4 2 (I 4 2)) (up_id I 4 2).symm ?_
               refine REST (I 4 2) 1 (by rw [up_id]; exact hF) (by omega) (by omega) (by omega) hat (by omega) ?_
               rw [trm_q hat (by omega), cif_f (show ¬ (sgn (I 5) (I 4 1) (I 4 2) = 43 ∨ sgn (I 5) (I 4 1) (I 4 2) = 45) by omega), Int.add_zero, hat, cif_f (by omega)])
        · refine V_aload_0 hx dX8_readTerm_62 ?_
          refine V_getIx 2 hx hF flX8_33 dX8_readTerm_63 rfl rfl (k4 hN) (fun r63 => ?_)
          refine V_s1P hx el ed c_X8_faultAt myX8_faultAt mlX8_40 dX8_readTerm_66 (by decide) (by omega) rfl (by first | exact Nat.le_of_ble_eq_true rfl | simp [vI, vL, vR_cat, Value.category]) ?_
          refine V_ireturn hx dX8_readTerm_69 (by omega) (by omega) ?_
          have et : trm (I 5) (I 4 1) k (I 4 2) = (-1, I 4 2, 0) := trm_f hat (by omega)
          exact ⟨_, rfl, rfl, hF, ⟨fun _ => by rw [et]; exact ⟨rfl, fun a q h => rfl⟩, fun h => absurd (by rw [et]) h⟩, by omega, by omega⟩
      · refine V_aload_0 hx dX8_readTerm_45 ?_
        refine V_aload_0 hx dX8_readTerm_46 ?_
        refine V_getIx 2 hx hF flX8_33 dX8_readTerm_47 rfl rfl (k4 hN) (fun r47 => ?_)
        refine V_iconst hx dX8_readTerm_50 ?_
        refine V_iadd hx dX8_readTerm_51 ?_
        refine V_v1N hx el ed (c_X8_goTo hN hF hT (by omega)) myX8_goTo mlX8_29 dX8_readTerm_52 ⟨_, rfl, rfl⟩ (k4 hN) (by decide) (by omega) rfl (by first | exact Nat.le_of_ble_eq_true rfl | simp [vI, vL, vR_cat, Value.category]) (fun N1 I1 ⟨eN, eI, hF⟩ => ?_)
        subst eN; subst eI
        refine V_goto (tgt := 70) hx dX8_readTerm_55 (by decide) ?_
        first
          | (exfalso; omega)
          | (have hsk := skf_R (t := I 5) (n := I 4 1) (a := I 4 2 + 1) (by omega)
             unfold skR at hsk
             refine REST (skf (I 5) (I 4 1) (I 4 2 + 1)) (-1) hF (by omega) (by omega) (by omega) (skf_id (by omega)) (by omega) ?_
             rw [trm_q hat (by omega), cif_t (show sgn (I 5) (I 4 1) (I 4 2) = 43 ∨ sgn (I 5) (I 4 1) (I 4 2) = 45 by omega), cif_t (by omega)])
          | (have hsk := skf_R (t := I 5) (n := I 4 1) (a := I 4 2 + 1) (by omega)
             unfold skR at hsk
             refine REST (skf (I 5) (I 4 1) (I 4 2 + 1)) (1) hF (by omega) (by omega) (by omega) (skf_id (by omega)) (by omega) ?_
             rw [trm_q hat (by omega), cif_t (show sgn (I 5) (I 4 1) (I 4 2) = 43 ∨ sgn (I 5) (I 4 1) (I 4 2) = 45 by omega), cif_f (by omega)])
          | (refine V_mem (up I 4 2 (I 4 2)) (up_id I 4 2).symm ?_
             refine REST (I 4 2) 1 (by rw [up_id]; exact hF) (by omega) (by omega) (by omega) hat (by omega) ?_
             rw [trm_q hat (by omega), cif_f (show ¬ (sgn (I 5) (I 4 1) (I 4 2) = 43 ∨ sgn (I 5) (I 4 1) (I 4 2) = 45) by omega), Int.add_zero, hat, cif_f (by omega)])
  · refine V_iconst hx dX8_readTerm_13 ?_
    refine V_goto (tgt := 18) hx dX8_readTerm_14 (by decide) ?_
    refine V_istore_3 hx (by first | exact nc_I | exact nc_R | exact nc_n) dX8_readTerm_18 ?_
    refine V_aload_0 hx dX8_readTerm_19 ?_
    refine V_aload_0 hx dX8_readTerm_20 ?_
    refine V_getIx 2 hx hF flX8_33 dX8_readTerm_21 rfl rfl (k4 hN) (fun r21 => ?_)
    refine V_v1Q hx el ed (c_X8_signAt hN hF hT (by omega)) myX8_signAt mlX8_44 dX8_readTerm_24 ⟨_, rfl, rfl⟩ (k4 hN) (by decide) (by omega) rfl (by first | exact Nat.le_of_ble_eq_true rfl | simp [vI, vL, vR_cat, Value.category]) (fun r24 => ?_)
    refine V_bipush hx dX8_readTerm_27 (by decide) ?_
    refine V_icmp_eq (tgt := 45) hx dX8_readTerm_29 (by decide) (by omega) (by omega) (fun h29 => ?_) (fun h29 => ?_)
    · refine V_aload_0 hx dX8_readTerm_45 ?_
      refine V_aload_0 hx dX8_readTerm_46 ?_
      refine V_getIx 2 hx hF flX8_33 dX8_readTerm_47 rfl rfl (k4 hN) (fun r47 => ?_)
      refine V_iconst hx dX8_readTerm_50 ?_
      refine V_iadd hx dX8_readTerm_51 ?_
      refine V_v1N hx el ed (c_X8_goTo hN hF hT (by omega)) myX8_goTo mlX8_29 dX8_readTerm_52 ⟨_, rfl, rfl⟩ (k4 hN) (by decide) (by omega) rfl (by first | exact Nat.le_of_ble_eq_true rfl | simp [vI, vL, vR_cat, Value.category]) (fun N1 I1 ⟨eN, eI, hF⟩ => ?_)
      subst eN; subst eI
      refine V_goto (tgt := 70) hx dX8_readTerm_55 (by decide) ?_
      first
        | (exfalso; omega)
        | (have hsk := skf_R (t := I 5) (n := I 4 1) (a := I 4 2 + 1) (by omega)
           unfold skR at hsk
           refine REST (skf (I 5) (I 4 1) (I 4 2 + 1)) (-1) hF (by omega) (by omega) (by omega) (skf_id (by omega)) (by omega) ?_
           rw [trm_q hat (by omega), cif_t (show sgn (I 5) (I 4 1) (I 4 2) = 43 ∨ sgn (I 5) (I 4 1) (I 4 2) = 45 by omega), cif_t (by omega)])
        | (have hsk := skf_R (t := I 5) (n := I 4 1) (a := I 4 2 + 1) (by omega)
           unfold skR at hsk
           refine REST (skf (I 5) (I 4 1) (I 4 2 + 1)) (1) hF (by omega) (by omega) (by omega) (skf_id (by omega)) (by omega) ?_
           rw [trm_q hat (by omega), cif_t (show sgn (I 5) (I 4 1) (I 4 2) = 43 ∨ sgn (I 5) (I 4 1) (I 4 2) = 45 by omega), cif_f (by omega)])
        | (refine V_mem (up I 4 2 (I 4 2)) (up_id I 4 2).symm ?_
           refine REST (I 4 2) 1 (by rw [up_id]; exact hF) (by omega) (by omega) (by omega) hat (by omega) ?_
           rw [trm_q hat (by omega), cif_f (show ¬ (sgn (I 5) (I 4 1) (I 4 2) = 43 ∨ sgn (I 5) (I 4 1) (I 4 2) = 45) by omega), Int.add_zero, hat, cif_f (by omega)])
    · refine V_aload_0 hx dX8_readTerm_32 ?_
      refine V_aload_0 hx dX8_readTerm_33 ?_
      refine V_getIx 2 hx hF flX8_33 dX8_readTerm_34 rfl rfl (k4 hN) (fun r34 => ?_)
      refine V_v1Q hx el ed (c_X8_signAt hN hF hT (by omega)) myX8_signAt mlX8_44 dX8_readTerm_37 ⟨_, rfl, rfl⟩ (k4 hN) (by decide) (by omega) rfl (by first | exact Nat.le_of_ble_eq_true rfl | simp [vI, vL, vR_cat, Value.category]) (fun r37 => ?_)
      refine V_bipush hx dX8_readTerm_40 (by decide) ?_
      refine V_icmp_ne (tgt := 58) hx dX8_readTerm_42 (by decide) (by omega) (by omega) (fun h42 => ?_) (fun h42 => ?_)
      · refine V_iload_2 hx dX8_readTerm_58 ?_
        refine V_if_ne (tgt := 70) hx dX8_readTerm_59 (by decide) (by omega) (fun h59 => ?_) (fun h59 => ?_)
        · first
            | (exfalso; omega)
            | (have hsk := skf_R (t := I 5) (n := I 4 1) (a := I 4 2 + 1) (by omega)
               unfold skR at hsk
               refine REST (skf (I 5) (I 4 1) (I 4 2 + 1)) (-1) hF (by omega) (by omega) (by omega) (skf_id (by omega)) (by omega) ?_
               rw [trm_q hat (by omega), cif_t (show sgn (I 5) (I 4 1) (I 4 2) = 43 ∨ sgn (I 5) (I 4 1) (I 4 2) = 45 by omega), cif_t (by omega)])
            | (have hsk := skf_R (t := I 5) (n := I 4 1) (a := I 4 2 + 1) (by omega)
               unfold skR at hsk
               refine REST (skf (I 5) (I 4 1) (I 4 2 + 1)) (1) hF (by omega) (by omega) (by omega) (skf_id (by omega)) (by omega) ?_
               rw [trm_q hat (by omega), cif_t (show sgn (I 5) (I 4 1) (I 4 2) = 43 ∨ sgn (I 5) (I 4 1) (I 4 2) = 45 by omega), cif_f (by omega)])
            | (refine V_mem (up I 4 2 (I 4 2)) (up_id I 4 2).symm ?_
               refine REST (I 4 2) 1 (by rw [up_id]; exact hF) (by omega) (by omega) (by omega) hat (by omega) ?_
               rw [trm_q hat (by omega), cif_f (show ¬ (sgn (I 5) (I 4 1) (I 4 2) = 43 ∨ sgn (I 5) (I 4 1) (I 4 2) = 45) by omega), Int.add_zero, hat, cif_f (by omega)])
        · refine V_aload_0 hx dX8_readTerm_62 ?_
          refine V_getIx 2 hx hF flX8_33 dX8_readTerm_63 rfl rfl (k4 hN) (fun r63 => ?_)
          refine V_s1P hx el ed c_X8_faultAt myX8_faultAt mlX8_40 dX8_readTerm_66 (by decide) (by omega) rfl (by first | exact Nat.le_of_ble_eq_true rfl | simp [vI, vL, vR_cat, Value.category]) ?_
          refine V_ireturn hx dX8_readTerm_69 (by omega) (by omega) ?_
          have et : trm (I 5) (I 4 1) k (I 4 2) = (-1, I 4 2, 0) := trm_f hat (by omega)
          exact ⟨_, rfl, rfl, hF, ⟨fun _ => by rw [et]; exact ⟨rfl, fun a q h => rfl⟩, fun h => absurd (by rw [et]) h⟩, by omega, by omega⟩
      · refine V_aload_0 hx dX8_readTerm_45 ?_
        refine V_aload_0 hx dX8_readTerm_46 ?_
        refine V_getIx 2 hx hF flX8_33 dX8_readTerm_47 rfl rfl (k4 hN) (fun r47 => ?_)
        refine V_iconst hx dX8_readTerm_50 ?_
        refine V_iadd hx dX8_readTerm_51 ?_
        refine V_v1N hx el ed (c_X8_goTo hN hF hT (by omega)) myX8_goTo mlX8_29 dX8_readTerm_52 ⟨_, rfl, rfl⟩ (k4 hN) (by decide) (by omega) rfl (by first | exact Nat.le_of_ble_eq_true rfl | simp [vI, vL, vR_cat, Value.category]) (fun N1 I1 ⟨eN, eI, hF⟩ => ?_)
        subst eN; subst eI
        refine V_goto (tgt := 70) hx dX8_readTerm_55 (by decide) ?_
        first
          | (exfalso; omega)
          | (have hsk := skf_R (t := I 5) (n := I 4 1) (a := I 4 2 + 1) (by omega)
             unfold skR at hsk
             refine REST (skf (I 5) (I 4 1) (I 4 2 + 1)) (-1) hF (by omega) (by omega) (by omega) (skf_id (by omega)) (by omega) ?_
             rw [trm_q hat (by omega), cif_t (show sgn (I 5) (I 4 1) (I 4 2) = 43 ∨ sgn (I 5) (I 4 1) (I 4 2) = 45 by omega), cif_t (by omega)])
          | (have hsk := skf_R (t := I 5) (n := I 4 1) (a := I 4 2 + 1) (by omega)
             unfold skR at hsk
             refine REST (skf (I 5) (I 4 1) (I 4 2 + 1)) (1) hF (by omega) (by omega) (by omega) (skf_id (by omega)) (by omega) ?_
             rw [trm_q hat (by omega), cif_t (show sgn (I 5) (I 4 1) (I 4 2) = 43 ∨ sgn (I 5) (I 4 1) (I 4 2) = 45 by omega), cif_f (by omega)])
          | (refine V_mem (up I 4 2 (I 4 2)) (up_id I 4 2).symm ?_
             refine REST (I 4 2) 1 (by rw [up_id]; exact hF) (by omega) (by omega) (by omega) hat (by omega) ?_
             rw [trm_q hat (by omega), cif_f (show ¬ (sgn (I 5) (I 4 1) (I 4 2) = 43 ∨ sgn (I 5) (I 4 1) (I 4 2) = 45) by omega), Int.add_zero, hat, cif_f (by omega)])

