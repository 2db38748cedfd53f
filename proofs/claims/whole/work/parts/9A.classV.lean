set_option maxRecDepth 8000 in
theorem c_X10_come {l : Launch} {d : Dd} {z : Nat} {N : Int} {I : Mm} {s ln : Int} (hN : 67 ≤ N) (hF : Fx I) (hWC : WelC I N) (hs : -2147483648 ≤ s ∧ s ≤ 2147483647) (hln : -2147483648 ≤ ln ∧ ln ≤ 2147483647) : Cn l d z yX10_come cX10_come 3 (some .int) 6 138 1 13 [vR z 0, vI s, vI ln] N I (pI (fun r N' I' => Fx I' ∧ (¬ ((0 ≤ s ∧ s ≤ 7) ∧ (1 ≤ ln ∧ ln ≤ 99)) → r = -1 ∧ N' = N ∧ I' = I) ∧ (((0 ≤ s ∧ s ≤ 7) ∧ (1 ≤ ln ∧ ln ≤ 99)) → I 0 3 = 1000 → r = -3 ∧ N' = N ∧ I' = I) ∧ (((0 ≤ s ∧ s ≤ 7) ∧ (1 ≤ ln ∧ ln ≤ 99)) → I 0 3 < 1000 → r = I 0 3 ∧ N' = N + 1 ∧ WelR I N s ln I'))) := by
  refine Cn.ofA [(vR z 0, false), (vI s, false), (vI ln, false)] [some (vR z 0), some (vI s), some (vI ln)] RX10 (by decide) rfl ⟨cR z 0, rfl, rfl, trivial⟩ (Nat.le_of_ble_eq_true rfl) rfl (fun x ed el hx hini => ?_)
  have hc := hWC.2.2.2.1
  refine V_iload_1 hx dX10_come_0 ?_
  refine V_iload_2 hx dX10_come_1 ?_
  refine V_s2P hx el ed (c_X10_canCome (by omega) (by omega)) myX10_canCome mlX10_94 dX10_come_2 (by decide) (by omega) rfl (by first | exact Nat.le_of_ble_eq_true rfl | (simp only [List.map_cons, List.map_nil, List.sum_cons, List.sum_nil, vR_cat, cat_I, cat_L]; decide)) ?_
  refine V_ifB_ne (tgt := 10) hx dX10_come_5 (by decide) (fun h5 => ?_) (fun h5 => ?_)
  · refine V_aload_0 hx dX10_come_10 ?_
    refine V_getIx 3 hx hF flX10_98 dX10_come_11 rfl rfl (k0 hN) (fun r11 => ?_)
    refine V_sipush hx dX10_come_14 (by decide) ?_
    refine V_icmp_ge (tgt := 29) hx dX10_come_17 (by decide) (by omega) (by omega) (fun h17 => ?_) (fun h17 => ?_)
    · refine V_bipush hx dX10_come_29 (by decide) ?_
      refine V_ireturn hx dX10_come_31 (by omega) (by omega) ?_
      first
        | exact ⟨_, rfl, hF, fun h => absurd (by assumption) h, fun _ h => by omega, fun _ _ => ⟨er, eN, hw⟩⟩
        | exact ⟨_, rfl, hF, fun h => absurd (by assumption) h, fun _ _ => ⟨rfl, rfl, rfl⟩, fun _ h => by omega⟩
    · refine V_aload_0 hx dX10_come_20 ?_
      refine V_iload_1 hx dX10_come_21 ?_
      refine V_iload_2 hx dX10_come_22 ?_
      refine V_v2I hx el ed (c_X10_welcome hN hF hWC (by omega) (by omega) (by omega)) myX10_welcome mlX10_102 dX10_come_23 ⟨_, rfl, rfl⟩ (k0 hN) (by decide) (by omega) rfl (by first | exact Nat.le_of_ble_eq_true rfl | (simp only [List.map_cons, List.map_nil, List.sum_cons, List.sum_nil, vR_cat, cat_I, cat_L]; decide)) (fun r N1 I1 ⟨er, eN, hF, hw⟩ => ?_)
      refine V_goto (tgt := 31) hx dX10_come_26 (by decide) ?_
      refine V_ireturn hx dX10_come_31 (by omega) (by omega) ?_
      first
        | exact ⟨_, rfl, hF, fun h => absurd (by assumption) h, fun _ h => by omega, fun _ _ => ⟨er, eN, hw⟩⟩
        | exact ⟨_, rfl, hF, fun h => absurd (by assumption) h, fun _ _ => ⟨rfl, rfl, rfl⟩, fun _ h => by omega⟩
  · refine V_iconst hx dX10_come_8 ?_
    refine V_ireturn hx dX10_come_9 (by omega) (by omega) ?_
    exact ⟨_, rfl, hF, fun _ => ⟨rfl, rfl, rfl⟩, fun h => absurd h (by assumption), fun h => absurd h (by assumption)⟩

set_option maxRecDepth 8000 in
theorem c_X10_comes {l : Launch} {d : Dd} {z : Nat} {N : Int} {I : Mm} {P : Int → Mm → Prop} {s lane i0 n : Int} (hN : 67 ≤ N) (hF : Fx I) (hC : CSh I) (h03 : I 0 3 = I 49 6) (hP0 : P 0 I) (hPb : ∀ (k : Int) (M : Mm), P k M → Fx M → WelC M (N + k) ∧ M 0 3 = I 0 3 + k ∧ CSh M ∧ ∀ q : Int, M 60 q = I 60 q) (hPs : ∀ (k : Int) (M J : Mm), 0 ≤ k → k < n → P k M → Fx M → Fx J → M 0 3 < 1000 → 0 ≤ I 60 (24 * s + (i0 + 2 * k)) ∧ I 60 (24 * s + (i0 + 2 * k)) ≤ 7 → 1 ≤ I 60 (24 * s + (i0 + 2 * k + 1)) ∧ I 60 (24 * s + (i0 + 2 * k + 1)) ≤ 99 → WelR M (N + k) (I 60 (24 * s + (i0 + 2 * k))) (I 60 (24 * s + (i0 + 2 * k + 1))) J → P (k + 1) J) (hs : -2147483648 ≤ s ∧ s ≤ 2147483647) (hlane : -2147483648 ≤ lane ∧ lane ≤ 2147483647) (hi0 : -2147483648 ≤ i0 ∧ i0 ≤ 2147483647) (hn : -2147483648 ≤ n ∧ n ≤ 2147483647) : Cn l d z yX10_comes cX10_comes 8 (some .int) 6 138 12 156 [vR z 0, vI s, vI lane, vI i0, vI n] N I (pI (fun r N' I' => r = aComes I s lane i0 n ∧ Fx I' ∧ (¬ (((0 ≤ s ∧ s ≤ 3) ∧ (0 ≤ lane ∧ lane ≤ 2) ∧ (0 ≤ n ∧ n ≤ 12)) ∧ wrF I s lane i0 (2 * n) = 1 ∧ okPairs I s i0 n ∧ I 49 6 + n ≤ 1000) → N' = N ∧ I' = I) ∧ (((0 ≤ s ∧ s ≤ 3) ∧ (0 ≤ lane ∧ lane ≤ 2) ∧ (0 ≤ n ∧ n ≤ 12)) ∧ wrF I s lane i0 (2 * n) = 1 ∧ okPairs I s i0 n ∧ I 49 6 + n ≤ 1000 → N' = N + n ∧ P n I'))) := by
  refine Cn.ofA [(vR z 0, false), (vI s, false), (vI lane, false), (vI i0, false), (vI n, false)] [some (vR z 0), some (vI s), some (vI lane), some (vI i0), some (vI n), none, none, none] RX10 (by decide) rfl ⟨cR z 0, rfl, rfl, rfl, rfl, trivial⟩ (Nat.le_of_ble_eq_true rfl) rfl (fun x ed el hx hini => ?_)
  have hWC := (hPb 0 I hP0 hF).1
  have hc := hWC.2.2.2.1
  refine V_iload_4 hx dX10_comes_0 ?_
  refine V_if_lt (tgt := 12) hx dX10_comes_2 (by decide) (by omega) (fun h2 => ?_) (fun h2 => ?_)
  · refine V_iconst hx dX10_comes_12 ?_
    refine V_ireturn hx dX10_comes_13 (by omega) (by omega) ?_
    exact ⟨_, rfl, by unfold aComes; rw [cif_f (by omega)], hF, fun _ => ⟨rfl, rfl⟩, fun h => absurd h (by omega)⟩
  · refine V_iload_4 hx dX10_comes_5 ?_
    refine V_bipush hx dX10_comes_7 (by decide) ?_
    refine V_icmp_le (tgt := 14) hx dX10_comes_9 (by decide) (by omega) (by omega) (fun h9 => ?_) (fun h9 => ?_)
    · refine V_aload_0 hx dX10_comes_14 ?_
      refine V_iload_1 hx dX10_comes_15 ?_
      refine V_iload_2 hx dX10_comes_16 ?_
      refine V_iload_3 hx dX10_comes_17 ?_
      refine V_iconst hx dX10_comes_18 ?_
      refine V_iload_4 hx dX10_comes_19 ?_
      refine V_imul hx dX10_comes_21 ?_
      refine V_v4Q hx el ed (c_X10_wrongSpan hN hF hC (by omega) (by omega) (by omega) (by omega)) myX10_wrongSpan mlX10_105 dX10_comes_22 ⟨_, rfl, rfl⟩ (k0 hN) (by decide) (by omega) rfl (by first | exact Nat.le_of_ble_eq_true rfl | (simp only [List.map_cons, List.map_nil, List.sum_cons, List.sum_nil, vR_cat, cat_I, cat_L]; decide)) (fun r22 => ?_)
      refine V_topI (wsF I s lane i0 (2 * n)) rfl ?_
      have hv := wsF_v I s lane i0 (2 * n)
      refine V_istore_5 hx (by first | exact nc_I | exact nc_R | exact nc_n) dX10_comes_25 ?_
      refine V_iload_5 hx dX10_comes_27 ?_
      refine V_if_ge (tgt := 35) hx dX10_comes_29 (by decide) (by omega) (fun h29 => ?_) (fun h29 => ?_)
      · refine V_iconst hx dX10_comes_35 ?_
        refine V_istore_6 hx (by first | exact nc_I | exact nc_R | exact nc_n) dX10_comes_36 ?_
        have hin := wr_in hC (s := s) (lane := lane) (i := i0) (n := 2 * n) (by omega) (by omega)
        refine loop_inv (α := Unit) 0 n (by omega) (fun i _ => okPairs I s i0 i) (fun i _ => V x z _ N I 0 0 38 [some (vR z 0), some (vI s), some (vI lane), some (vI i0), some (vI n), some (vI (wsF I s lane i0 (2 * n))), some (vI i), none] []) ?_ ?_ () (fun k a b => by omega)
        · rintro _ hok
          refine V_iload_6 hx dX10_comes_38 ?_
          refine V_iload_4 hx dX10_comes_40 ?_
          refine V_icmp_ge (tgt := 84) hx dX10_comes_42 (by decide) (by omega) (by omega) (fun h42 => ?_) (fun h42 => ?_)
          · refine V_aload_0 hx dX10_comes_84 ?_
            refine V_getIx 3 hx hF flX10_98 dX10_comes_85 rfl rfl (k0 hN) (fun r85 => ?_)
            refine V_iload_4 hx dX10_comes_88 ?_
            refine V_iadd hx dX10_comes_90 ?_
            refine V_sipush hx dX10_comes_91 (by decide) ?_
            refine V_icmp_le (tgt := 100) hx dX10_comes_94 (by decide) (by omega) (by omega) (fun h94 => ?_) (fun h94 => ?_)
            · refine V_iload_4 hx dX10_comes_100 ?_
              refine V_if_ne (tgt := 110) hx dX10_comes_102 (by decide) (by omega) (fun h102 => ?_) (fun h102 => ?_)
              · refine V_aload_0 hx dX10_comes_110 ?_
                refine V_getIx 3 hx hF flX10_98 dX10_comes_111 rfl rfl (k0 hN) (fun r111 => ?_)
                refine V_istore_6 hx (by first | exact nc_I | exact nc_R | exact nc_n) dX10_comes_114 ?_
                refine V_iconst hx dX10_comes_116 ?_
                refine V_istore_7 hx (by first | exact nc_I | exact nc_R | exact nc_n) dX10_comes_117 ?_
                obtain ⟨f0, hf0⟩ : ∃ f0 : Int, f0 = cif (n = 0) (-4) (I 0 3) := ⟨_, rfl⟩
                have hloop : V x z (pI (fun r N' I' => r = aComes I s lane i0 n ∧ Fx I' ∧ (¬ (((0 ≤ s ∧ s ≤ 3) ∧ (0 ≤ lane ∧ lane ≤ 2) ∧ (0 ≤ n ∧ n ≤ 12)) ∧ wrF I s lane i0 (2 * n) = 1 ∧ okPairs I s i0 n ∧ I 49 6 + n ≤ 1000) → N' = N ∧ I' = I) ∧ (((0 ≤ s ∧ s ≤ 3) ∧ (0 ≤ lane ∧ lane ≤ 2) ∧ (0 ≤ n ∧ n ≤ 12)) ∧ wrF I s lane i0 (2 * n) = 1 ∧ okPairs I s i0 n ∧ I 49 6 + n ≤ 1000 → N' = N + n ∧ P n I'))) N I 0 0 119 [some (vR z 0), some (vI s), some (vI lane), some (vI i0), some (vI n), some (vI (wsF I s lane i0 (2 * n))), some (vI f0), some (vI 0)] [] := by
                  refine V_cnt (N' := N + 0) (k' := (0 : Int).toNat) (n' := 13 * (0 : Int).toNat) (by omega) rfl rfl ?_
                  refine loop_inv (α := Mm) 0 n (by omega) (fun i M => Fx M ∧ P i M) (fun i M => V x z _ (N + i) M i.toNat (13 * i.toNat) 119 [some (vR z 0), some (vI s), some (vI lane), some (vI i0), some (vI n), some (vI (wsF I s lane i0 (2 * n))), some (vI f0), some (vI i)] []) ?_ ?_ _ ⟨hF, hP0⟩
                  · rintro M ⟨hF, hPM⟩
                    refine V_iload_7 hx dX10_comes_119 ?_
                    refine V_iload_4 hx dX10_comes_121 ?_
                    refine V_icmp_ge (tgt := 161) hx dX10_comes_123 (by decide) (by omega) (by omega) (fun h123 => ?_) (fun h123 => ?_)
                    · refine V_iload_6 hx dX10_comes_161 ?_
                      refine V_ireturn hx dX10_comes_163 (by omega) (by omega) ?_
                      exact ⟨_, rfl, by unfold aComes; rw [cif_t (by omega), cif_t (by omega), cif_t hok, cif_f (by omega), hf0, ← h03], hF, fun h => absurd ⟨by omega, by omega, hok, by omega⟩ h, fun _ => ⟨rfl, hPM⟩⟩
                    · exfalso; omega
                  · rintro i M hi0 hi1 ⟨hF, hPM⟩ ih
                    have hF0 := hF
                    obtain ⟨hWM, h3, hCM, h60⟩ := hPb i M hPM hF
                    have hN1 : 67 ≤ N + i := by omega
                    have hoki := hok i hi0 hi1
                    refine V_iload_7 hx dX10_comes_119 ?_
                    refine V_iload_4 hx dX10_comes_121 ?_
                    refine V_icmp_ge (tgt := 161) hx dX10_comes_123 (by decide) (by omega) (by omega) (fun h123 => ?_) (fun h123 => ?_)
                    · exfalso; omega
                    · refine V_aload_0 hx dX10_comes_126 ?_
                      refine V_aload_0 hx dX10_comes_127 ?_
                      refine V_iload_1 hx dX10_comes_128 ?_
                      refine V_iload_3 hx dX10_comes_129 ?_
                      refine V_iconst hx dX10_comes_130 ?_
                      refine V_iload_7 hx dX10_comes_131 ?_
                      refine V_imul hx dX10_comes_133 ?_
                      refine V_iadd hx dX10_comes_134 ?_
                      refine V_v2Q hx el ed (c_X10_itemAt hN1 hF hCM (by omega) (by omega)) myX10_itemAt mlX10_109 dX10_comes_135 ⟨_, rfl, rfl⟩ (k0 hN1) (by decide) (by omega) rfl (by first | exact Nat.le_of_ble_eq_true rfl | (simp only [List.map_cons, List.map_nil, List.sum_cons, List.sum_nil, vR_cat, cat_I, cat_L]; decide)) (fun r135 => ?_)
                      rw [h60]
                      rw [h60] at r135
                      refine V_aload_0 hx dX10_comes_138 ?_
                      refine V_iload_1 hx dX10_comes_139 ?_
                      refine V_iload_3 hx dX10_comes_140 ?_
                      refine V_iconst hx dX10_comes_141 ?_
                      refine V_iload_7 hx dX10_comes_142 ?_
                      refine V_imul hx dX10_comes_144 ?_
                      refine V_iadd hx dX10_comes_145 ?_
                      refine V_iconst hx dX10_comes_146 ?_
                      refine V_iadd hx dX10_comes_147 ?_
                      refine V_v2Q hx el ed (c_X10_itemAt hN1 hF hCM (by omega) (by omega)) myX10_itemAt mlX10_109 dX10_comes_148 ⟨_, rfl, rfl⟩ (k0 hN1) (by decide) (by omega) rfl (by first | exact Nat.le_of_ble_eq_true rfl | (simp only [List.map_cons, List.map_nil, List.sum_cons, List.sum_nil, vR_cat, cat_I, cat_L]; decide)) (fun r148 => ?_)
                      rw [h60]
                      rw [h60] at r148
                      refine V_v2I hx el ed (c_X10_welcome hN1 hF hWM (by omega) (by omega) (by omega)) myX10_welcome mlX10_102 dX10_comes_151 ⟨_, rfl, rfl⟩ (k0 hN1) (by decide) (by omega) rfl (by first | exact Nat.le_of_ble_eq_true rfl | (simp only [List.map_cons, List.map_nil, List.sum_cons, List.sum_nil, vR_cat, cat_I, cat_L]; decide)) (fun rv N2 I2 ⟨er, eN2, hF, hw⟩ => ?_)
                      subst eN2
                      refine V_popI hx dX10_comes_154 ?_
                      refine V_iinc_7 hx (by first | exact nc_I | exact nc_R | exact nc_n) dX10_comes_155 ?_
                      refine V_goto (tgt := 119) hx dX10_comes_158 (by decide) ?_
                      refine V_cnt (N' := N + (i + 1)) (k' := (i + 1).toNat) (n' := 13 * (i + 1).toNat) (by omega) (by omega) (by omega) ?_
                      exact ih _ ⟨hF, hPs i M I2 hi0 hi1 hPM hF0 hF (by omega) (by omega) (by omega) hw⟩
                first
                  | (rw [cif_t (by omega)] at hf0; rw [hf0] at hloop; exact hloop)
                  | (rw [cif_f (by omega)] at hf0; rw [hf0] at hloop; exact hloop)
              · refine V_bipush hx dX10_comes_105 (by decide) ?_
                refine V_goto (tgt := 114) hx dX10_comes_107 (by decide) ?_
                refine V_istore_6 hx (by first | exact nc_I | exact nc_R | exact nc_n) dX10_comes_114 ?_
                refine V_iconst hx dX10_comes_116 ?_
                refine V_istore_7 hx (by first | exact nc_I | exact nc_R | exact nc_n) dX10_comes_117 ?_
                obtain ⟨f0, hf0⟩ : ∃ f0 : Int, f0 = cif (n = 0) (-4) (I 0 3) := ⟨_, rfl⟩
                have hloop : V x z (pI (fun r N' I' => r = aComes I s lane i0 n ∧ Fx I' ∧ (¬ (((0 ≤ s ∧ s ≤ 3) ∧ (0 ≤ lane ∧ lane ≤ 2) ∧ (0 ≤ n ∧ n ≤ 12)) ∧ wrF I s lane i0 (2 * n) = 1 ∧ okPairs I s i0 n ∧ I 49 6 + n ≤ 1000) → N' = N ∧ I' = I) ∧ (((0 ≤ s ∧ s ≤ 3) ∧ (0 ≤ lane ∧ lane ≤ 2) ∧ (0 ≤ n ∧ n ≤ 12)) ∧ wrF I s lane i0 (2 * n) = 1 ∧ okPairs I s i0 n ∧ I 49 6 + n ≤ 1000 → N' = N + n ∧ P n I'))) N I 0 0 119 [some (vR z 0), some (vI s), some (vI lane), some (vI i0), some (vI n), some (vI (wsF I s lane i0 (2 * n))), some (vI f0), some (vI 0)] [] := by
                  refine V_cnt (N' := N + 0) (k' := (0 : Int).toNat) (n' := 13 * (0 : Int).toNat) (by omega) rfl rfl ?_
                  refine loop_inv (α := Mm) 0 n (by omega) (fun i M => Fx M ∧ P i M) (fun i M => V x z _ (N + i) M i.toNat (13 * i.toNat) 119 [some (vR z 0), some (vI s), some (vI lane), some (vI i0), some (vI n), some (vI (wsF I s lane i0 (2 * n))), some (vI f0), some (vI i)] []) ?_ ?_ _ ⟨hF, hP0⟩
                  · rintro M ⟨hF, hPM⟩
                    refine V_iload_7 hx dX10_comes_119 ?_
                    refine V_iload_4 hx dX10_comes_121 ?_
                    refine V_icmp_ge (tgt := 161) hx dX10_comes_123 (by decide) (by omega) (by omega) (fun h123 => ?_) (fun h123 => ?_)
                    · refine V_iload_6 hx dX10_comes_161 ?_
                      refine V_ireturn hx dX10_comes_163 (by omega) (by omega) ?_
                      exact ⟨_, rfl, by unfold aComes; rw [cif_t (by omega), cif_t (by omega), cif_t hok, cif_f (by omega), hf0, ← h03], hF, fun h => absurd ⟨by omega, by omega, hok, by omega⟩ h, fun _ => ⟨rfl, hPM⟩⟩
                    · exfalso; omega
                  · rintro i M hi0 hi1 ⟨hF, hPM⟩ ih
                    have hF0 := hF
                    obtain ⟨hWM, h3, hCM, h60⟩ := hPb i M hPM hF
                    have hN1 : 67 ≤ N + i := by omega
                    have hoki := hok i hi0 hi1
                    refine V_iload_7 hx dX10_comes_119 ?_
                    refine V_iload_4 hx dX10_comes_121 ?_
                    refine V_icmp_ge (tgt := 161) hx dX10_comes_123 (by decide) (by omega) (by omega) (fun h123 => ?_) (fun h123 => ?_)
                    · exfalso; omega
                    · refine V_aload_0 hx dX10_comes_126 ?_
                      refine V_aload_0 hx dX10_comes_127 ?_
                      refine V_iload_1 hx dX10_comes_128 ?_
                      refine V_iload_3 hx dX10_comes_129 ?_
                      refine V_iconst hx dX10_comes_130 ?_
                      refine V_iload_7 hx dX10_comes_131 ?_
                      refine V_imul hx dX10_comes_133 ?_
                      refine V_iadd hx dX10_comes_134 ?_
                      refine V_v2Q hx el ed (c_X10_itemAt hN1 hF hCM (by omega) (by omega)) myX10_itemAt mlX10_109 dX10_comes_135 ⟨_, rfl, rfl⟩ (k0 hN1) (by decide) (by omega) rfl (by first | exact Nat.le_of_ble_eq_true rfl | (simp only [List.map_cons, List.map_nil, List.sum_cons, List.sum_nil, vR_cat, cat_I, cat_L]; decide)) (fun r135 => ?_)
                      rw [h60]
                      rw [h60] at r135
                      refine V_aload_0 hx dX10_comes_138 ?_
                      refine V_iload_1 hx dX10_comes_139 ?_
                      refine V_iload_3 hx dX10_comes_140 ?_
                      refine V_iconst hx dX10_comes_141 ?_
                      refine V_iload_7 hx dX10_comes_142 ?_
                      refine V_imul hx dX10_comes_144 ?_
                      refine V_iadd hx dX10_comes_145 ?_
                      refine V_iconst hx dX10_comes_146 ?_
                      refine V_iadd hx dX10_comes_147 ?_
                      refine V_v2Q hx el ed (c_X10_itemAt hN1 hF hCM (by omega) (by omega)) myX10_itemAt mlX10_109 dX10_comes_148 ⟨_, rfl, rfl⟩ (k0 hN1) (by decide) (by omega) rfl (by first | exact Nat.le_of_ble_eq_true rfl | (simp only [List.map_cons, List.map_nil, List.sum_cons, List.sum_nil, vR_cat, cat_I, cat_L]; decide)) (fun r148 => ?_)
                      rw [h60]
                      rw [h60] at r148
                      refine V_v2I hx el ed (c_X10_welcome hN1 hF hWM (by omega) (by omega) (by omega)) myX10_welcome mlX10_102 dX10_comes_151 ⟨_, rfl, rfl⟩ (k0 hN1) (by decide) (by omega) rfl (by first | exact Nat.le_of_ble_eq_true rfl | (simp only [List.map_cons, List.map_nil, List.sum_cons, List.sum_nil, vR_cat, cat_I, cat_L]; decide)) (fun rv N2 I2 ⟨er, eN2, hF, hw⟩ => ?_)
                      subst eN2
                      refine V_popI hx dX10_comes_154 ?_
                      refine V_iinc_7 hx (by first | exact nc_I | exact nc_R | exact nc_n) dX10_comes_155 ?_
                      refine V_goto (tgt := 119) hx dX10_comes_158 (by decide) ?_
                      refine V_cnt (N' := N + (i + 1)) (k' := (i + 1).toNat) (n' := 13 * (i + 1).toNat) (by omega) (by omega) (by omega) ?_
                      exact ih _ ⟨hF, hPs i M I2 hi0 hi1 hPM hF0 hF (by omega) (by omega) (by omega) hw⟩
                first
                  | (rw [cif_t (by omega)] at hf0; rw [hf0] at hloop; exact hloop)
                  | (rw [cif_f (by omega)] at hf0; rw [hf0] at hloop; exact hloop)
            · refine V_bipush hx dX10_comes_97 (by decide) ?_
              refine V_ireturn hx dX10_comes_99 (by omega) (by omega) ?_
              exact ⟨_, rfl, by unfold aComes; rw [cif_t (by omega), cif_t (by omega), cif_t hok, cif_t (by omega)], hF, fun _ => ⟨rfl, rfl⟩, fun h => absurd h (by omega)⟩
          · exfalso; omega
        · rintro i _ hi0 hi1 hok ih
          refine V_iload_6 hx dX10_comes_38 ?_
          refine V_iload_4 hx dX10_comes_40 ?_
          refine V_icmp_ge (tgt := 84) hx dX10_comes_42 (by decide) (by omega) (by omega) (fun h42 => ?_) (fun h42 => ?_)
          · exfalso; omega
          · refine V_aload_0 hx dX10_comes_45 ?_
            refine V_iload_1 hx dX10_comes_46 ?_
            refine V_iload_3 hx dX10_comes_47 ?_
            refine V_iconst hx dX10_comes_48 ?_
            refine V_iload_6 hx dX10_comes_49 ?_
            refine V_imul hx dX10_comes_51 ?_
            refine V_iadd hx dX10_comes_52 ?_
            refine V_v2Q hx el ed (c_X10_itemAt hN hF hC (by omega) (by omega)) myX10_itemAt mlX10_109 dX10_comes_53 ⟨_, rfl, rfl⟩ (k0 hN) (by decide) (by omega) rfl (by first | exact Nat.le_of_ble_eq_true rfl | (simp only [List.map_cons, List.map_nil, List.sum_cons, List.sum_nil, vR_cat, cat_I, cat_L]; decide)) (fun r53 => ?_)
            refine V_aload_0 hx dX10_comes_56 ?_
            refine V_iload_1 hx dX10_comes_57 ?_
            refine V_iload_3 hx dX10_comes_58 ?_
            refine V_iconst hx dX10_comes_59 ?_
            refine V_iload_6 hx dX10_comes_60 ?_
            refine V_imul hx dX10_comes_62 ?_
            refine V_iadd hx dX10_comes_63 ?_
            refine V_iconst hx dX10_comes_64 ?_
            refine V_iadd hx dX10_comes_65 ?_
            refine V_v2Q hx el ed (c_X10_itemAt hN hF hC (by omega) (by omega)) myX10_itemAt mlX10_109 dX10_comes_66 ⟨_, rfl, rfl⟩ (k0 hN) (by decide) (by omega) rfl (by first | exact Nat.le_of_ble_eq_true rfl | (simp only [List.map_cons, List.map_nil, List.sum_cons, List.sum_nil, vR_cat, cat_I, cat_L]; decide)) (fun r66 => ?_)
            refine V_s2P hx el ed (c_X10_canCome (by omega) (by omega)) myX10_canCome mlX10_94 dX10_comes_69 (by decide) (by omega) rfl (by first | exact Nat.le_of_ble_eq_true rfl | (simp only [List.map_cons, List.map_nil, List.sum_cons, List.sum_nil, vR_cat, cat_I, cat_L]; decide)) ?_
            refine V_ifB_ne (tgt := 78) hx dX10_comes_72 (by decide) (fun h72 => ?_) (fun h72 => ?_)
            · refine V_iinc_6 hx (by first | exact nc_I | exact nc_R | exact nc_n) dX10_comes_78 ?_
              refine V_goto (tgt := 38) hx dX10_comes_81 (by decide) ?_
              exact ih () ((okPairs_s hi0).mpr ⟨hok, by omega, by omega⟩)
            · refine V_bipush hx dX10_comes_75 (by decide) ?_
              refine V_ireturn hx dX10_comes_77 (by omega) (by omega) ?_
              have hno : ¬ okPairs I s i0 n := fun q => by have := q i hi0 hi1; omega
              exact ⟨_, rfl, by unfold aComes; rw [cif_t (by omega), cif_t (by omega), cif_f hno], hF, fun _ => ⟨rfl, rfl⟩, fun h => absurd h.2.2.1 hno⟩
      · refine V_iload_5 hx dX10_comes_32 ?_
        refine V_ireturn hx dX10_comes_34 (by omega) (by omega) ?_
        rcases hv with ⟨v1, v2⟩ | ⟨v1, v2, v3⟩ | ⟨v1, v2, v3, v4⟩
        · exact ⟨_, rfl, by unfold aComes; rw [cif_f (by omega)]; omega, hF, fun _ => ⟨rfl, rfl⟩, fun h => absurd h (by omega)⟩
        · exfalso; omega
        · exact ⟨_, rfl, by unfold aComes; rw [cif_t (by omega), cif_f v2]; omega, hF, fun _ => ⟨rfl, rfl⟩, fun h => absurd h (by omega)⟩
    · refine V_iconst hx dX10_comes_12 ?_
      refine V_ireturn hx dX10_comes_13 (by omega) (by omega) ?_
      exact ⟨_, rfl, by unfold aComes; rw [cif_f (by omega)], hF, fun _ => ⟨rfl, rfl⟩, fun h => absurd h (by omega)⟩

set_option maxRecDepth 8000 in
theorem c_X10_ticks {l : Launch} {d : Dd} {z : Nat} {N : Int} {I : Mm} {P : Mm → Prop} {n : Int}  (hI : Inv I N) (hP : P I) (hPb : ∀ M : Mm, P M → TikC M N) (hPs : ∀ M : Mm, P M → M 11 6 < I 49 7 + n → (1 ≤ n ∧ n ≤ 500) ∧ I 49 7 + n ≤ 99999 → P (kGo M (I 49 7 + n))) (hn : -2147483648 ≤ n ∧ n ≤ 2147483647) : Cn l d z yX10_ticks cX10_ticks 5 (some .int) 6 141 0 0 [vR z 0, vI n] N I (pI (fun r N' I' => N' = N ∧ Fx I' ∧ ((1 ≤ n ∧ n ≤ 500) ∧ I 49 7 + n ≤ 99999 → P I' ∧ I' 11 6 = I 49 7 + n) ∧ (¬ ((1 ≤ n ∧ n ≤ 500) ∧ I 49 7 + n ≤ 99999) → I' = I) ∧ r = aTicks I n)) := by
  refine Cn.ofA [(vR z 0, false), (vI n, false)] [some (vR z 0), some (vI n), none, none, none] RX10 (by decide) rfl ⟨cR z 0, rfl, trivial⟩ (Nat.le_of_ble_eq_true rfl) rfl (fun x ed el hx hini => ?_)
  have hN := hI.nb.1
  have hF := hI.fx
  have hnb := hI.nb
  have hmy := hI.n
  have hpo := hI.po
  have hsn := hI.sn
  obtain ⟨p1, p2, p3, p4, p5, p6, p7, p8, p9, p10⟩ := hpo
  have hs7 := hI.sn.2.1
  refine V_iload_1 hx dX10_ticks_0 ?_
  refine V_iconst hx dX10_ticks_1 ?_
  refine V_icmp_lt (tgt := 12) hx dX10_ticks_2 (by decide) (by omega) (by omega) (fun h2 => ?_) (fun h2 => ?_)
  · refine V_iconst hx dX10_ticks_12 ?_
    refine V_ireturn hx dX10_ticks_13 (by omega) (by omega) ?_
    exact ⟨_, rfl, rfl, hF, fun h => absurd h (by omega), fun _ => rfl, by unfold aTicks; rw [cif_f (by omega)]⟩
  · refine V_iload_1 hx dX10_ticks_5 ?_
    refine V_sipush hx dX10_ticks_6 (by decide) ?_
    refine V_icmp_le (tgt := 14) hx dX10_ticks_9 (by decide) (by omega) (by omega) (fun h9 => ?_) (fun h9 => ?_)
    · refine V_aload_0 hx dX10_ticks_14 ?_
      refine V_getRe hx flX10_60 dX10_ticks_15 rfl (k0 hN) (hF.1 0 8 11 rfl) ?_
      refine V_getIx 6 hx hF flX10_186 dX10_ticks_18 rfl rfl (k11 hN) (fun r18 => ?_)
      refine V_iload_1 hx dX10_ticks_21 ?_
      refine V_iadd hx dX10_ticks_22 ?_
      refine V_ldc (v := 99999) hx kcX10_189 dX10_ticks_23 (by decide) ?_
      refine V_icmp_le (tgt := 31) hx dX10_ticks_25 (by decide) (by omega) (by omega) (fun h25 => ?_) (fun h25 => ?_)
      · refine V_aload_0 hx dX10_ticks_31 ?_
        refine V_getRe hx flX10_60 dX10_ticks_32 rfl (k0 hN) (hF.1 0 8 11 rfl) ?_
        refine V_getIx 6 hx hF flX10_186 dX10_ticks_35 rfl rfl (k11 hN) (fun r35 => ?_)
        refine V_iload_1 hx dX10_ticks_38 ?_
        refine V_iadd hx dX10_ticks_39 ?_
        refine V_istore_2 hx (by first | exact nc_I | exact nc_R | exact nc_n) dX10_ticks_40 ?_
        refine V_iconst hx dX10_ticks_41 ?_
        refine V_istore_3 hx (by first | exact nc_I | exact nc_R | exact nc_n) dX10_ticks_42 ?_
        obtain ⟨t, ht⟩ : ∃ t : Int, t = I 49 7 + n := ⟨_, rfl⟩
        rw [show I 11 6 + n = t by omega]
        rw [← ht] at hPs
        refine loop_inv (α := Mm) 0 n (by omega) (fun i M => Fx M ∧ P M ∧ I 11 6 + i ≤ M 11 6 ∧ M 11 6 ≤ t) (fun i M => V x z _ N M 0 0 43 [some (vR z 0), some (vI n), some (vI t), some (vI i), none] []) ?_ ?_ _ ⟨hF, hP, by omega, by omega⟩
        · rintro M ⟨hF, hPM, m1, m2⟩
          refine V_iload_3 hx dX10_ticks_43 ?_
          refine V_iload_1 hx dX10_ticks_44 ?_
          refine V_icmp_ge (tgt := 103) hx dX10_ticks_45 (by decide) (by omega) (by omega) (fun h45 => ?_) (fun h45 => ?_)
          · refine V_aload_0 hx dX10_ticks_103 ?_
            refine V_getRe hx flX10_60 dX10_ticks_104 rfl (k0 hN) (hF.1 0 8 11 rfl) ?_
            refine V_getIx 6 hx hF flX10_186 dX10_ticks_107 rfl rfl (k11 hN) (fun r107 => ?_)
            refine V_ireturn hx dX10_ticks_110 (by omega) (by omega) ?_
            exact ⟨_, rfl, rfl, hF, fun _ => ⟨hPM, by omega⟩, fun h => absurd (by omega) h, by unfold aTicks; rw [cif_t (by omega), cif_f (by omega)]; omega⟩
          · exfalso; omega
        · rintro i M hi0 hi1 ⟨hF, hPM, m1, m2⟩ ih
          refine V_iload_3 hx dX10_ticks_43 ?_
          refine V_iload_1 hx dX10_ticks_44 ?_
          refine V_icmp_ge (tgt := 103) hx dX10_ticks_45 (by decide) (by omega) (by omega) (fun h45 => ?_) (fun h45 => ?_)
          · refine V_aload_0 hx dX10_ticks_103 ?_
            refine V_getRe hx flX10_60 dX10_ticks_104 rfl (k0 hN) (hF.1 0 8 11 rfl) ?_
            refine V_getIx 6 hx hF flX10_186 dX10_ticks_107 rfl rfl (k11 hN) (fun r107 => ?_)
            refine V_ireturn hx dX10_ticks_110 (by omega) (by omega) ?_
            exact ⟨_, rfl, rfl, hF, fun _ => ⟨hPM, by omega⟩, fun h => absurd (by omega) h, by unfold aTicks; rw [cif_t (by omega), cif_f (by omega)]; omega⟩
          · refine V_aload_0 hx dX10_ticks_48 ?_
            refine V_getRe hx flX10_60 dX10_ticks_49 rfl (k0 hN) (hF.1 0 8 11 rfl) ?_
            refine V_getIx 6 hx hF flX10_186 dX10_ticks_52 rfl rfl (k11 hN) (fun r52 => ?_)
            refine V_iload_2 hx dX10_ticks_55 ?_
            refine V_icmp_ge (tgt := 103) hx dX10_ticks_56 (by decide) (by omega) (by omega) (fun h56 => ?_) (fun h56 => ?_)
            · refine V_aload_0 hx dX10_ticks_103 ?_
              refine V_getRe hx flX10_60 dX10_ticks_104 rfl (k0 hN) (hF.1 0 8 11 rfl) ?_
              refine V_getIx 6 hx hF flX10_186 dX10_ticks_107 rfl rfl (k11 hN) (fun r107 => ?_)
              refine V_ireturn hx dX10_ticks_110 (by omega) (by omega) ?_
              exact ⟨_, rfl, rfl, hF, fun _ => ⟨hPM, by omega⟩, fun h => absurd (by omega) h, by unfold aTicks; rw [cif_t (by omega), cif_f (by omega)]; omega⟩
            · refine V_aload_0 hx dX10_ticks_59 ?_
              refine V_getRe hx flX10_60 dX10_ticks_60 rfl (k0 hN) (hF.1 0 8 11 rfl) ?_
              refine V_iload_2 hx dX10_ticks_63 ?_
              have hTK := hPb M hPM
              have hGJ := GoC_J hTK.1
              have hgr := goA_r hGJ t
              have hw5 : goJ M 11 5 = -1 ∨ 67 ≤ goJ M 11 5 := by have := hGJ.2.1; omega
              have hnw := nxW_r hTK.1.1 (M 11 6)
              have hnw2 : nxW M (M 11 6) = -1 ∨ 67 ≤ nxW M (M 11 6) := by omega
              have hk6 := kGo_6 (t := t) hTK
              have hj6 := goJ_6 hTK.1
              have hn6 : goJ M 11 6 + 1 ≤ goN (goJ M) t ∧ goN (goJ M) t ≤ t := by unfold goN; omega
              refine V_v1R hx el ed (c_X3_goOn hN hF hTK.1 (by omega) (by omega)) myX3_goOn mlX10_190 dX10_ticks_64 ⟨_, rfl, rfl⟩ (k11 hN) (by decide) (by omega) rfl (by first | exact Nat.le_of_ble_eq_true rfl | (simp only [List.map_cons, List.map_nil, List.sum_cons, List.sum_nil, vR_cat, cat_I, cat_L]; decide)) (fun r N1 I1 ⟨er, eN, eI, hF⟩ => ?_)
              subst eN
              refine V_astore_4 hx (by first | exact nc_I | exact nc_R | exact nc_n) dX10_ticks_67 ?_
              refine V_aload_4 hx dX10_ticks_69 ?_
              refine V_ifnull (tgt := 97) hx dX10_ticks_71 (by decide) (fun h71 => ?_) (fun h71 => ?_)
              · refine V_iinc_3 hx (by first | exact nc_I | exact nc_R | exact nc_n) dX10_ticks_97 ?_
                refine V_goto (tgt := 43) hx dX10_ticks_100 (by decide) ?_
                refine V_drop_4 ?_
                first
                  | (have ek : kGo M t = goM (goJ M) t := by unfold kGo; rw [cif_t (by omega)]
                     rw [← ek] at eI
                     exact ih _ ⟨hF, by rw [eI]; exact hPs M hPM (by omega) (by omega), by rw [eI, hk6]; omega, by rw [eI, hk6]; omega⟩)
                  | (have ek : kGo M t = up I1 (25 + 2 * M r 1) 5 (M (25 + 2 * M r 1) 5 + M r 4) := by unfold kGo; rw [cif_f (by omega), eI, er]
                     rw [← ek] at hF ⊢
                     exact ih _ ⟨hF, hPs M hPM (by omega) (by omega), by rw [hk6]; omega, by rw [hk6]; omega⟩)
              · have hshr : shk N1 r (0, 9) := wdC (by omega) (by omega)
                have g : ∀ a k : Int, (a ≠ 11 ∧ a ≠ 13 ∧ a ≠ 14 ∧ a ≠ 15 ∧ a ≠ 16 ∧ a ≠ 17) → 0 ≤ a → (a < 67 ∨ (k ≠ 10 ∧ k ≠ 11 ∧ k ≠ 12)) → I1 a k = M a k := fun a k h h0 h1 => by rw [eI, goM_n h.1 (by omega) hw5]; exact goJ_n h h1 hnw2 (by omega)
                have hwr := hTK.2.1 r (by omega) (by omega)
                have hsr := hTK.2.2 (M r 1) (by omega) (by omega)
                have hstr := stC hN hF (s := M r 1) (by omega) (by omega)
                have e1 := g r 1 (by omega) (by omega) (by omega)
                have e4 := g r 4 (by omega) (by omega) (by omega)
                have e5 := g (25 + 2 * M r 1) 5 (by omega) (by omega) (by omega)
                refine V_aload_0 hx dX10_ticks_74 ?_
                refine V_getRe hx flX10_11 dX10_ticks_75 rfl (k0 hN) (hF.1 0 0 1 rfl) ?_
                refine V_aload_4 hx dX10_ticks_78 ?_
                refine V_getIx 1 hx hF flX10_142 dX10_ticks_80 rfl rfl hshr (fun r80 => ?_)
                rw [e1]
                refine V_aaload hx dX10_ticks_83 (k1 hN) (by unfold refK; omega) (by decide) (by omega) ?_
                rw [str_at hF (by omega) (by omega)]
                refine V_dupR hx dX10_ticks_84 ?_
                refine V_getIx 5 hx hF flX10_193 dX10_ticks_85 rfl rfl hstr.1 (fun r85 => ?_)
                rw [e5]
                rw [e5] at r85
                refine V_aload_4 hx dX10_ticks_88 ?_
                refine V_getIx 4 hx hF flX10_145 dX10_ticks_90 rfl rfl hshr (fun r90 => ?_)
                rw [e4]
                rw [e4] at r90
                refine V_iadd hx dX10_ticks_93 ?_
                refine V_putIx 5 hx hF flX10_193 dX10_ticks_94 rfl rfl (fun r h => by cases h; rfl) hstr.1 (hstr.2.2.2.2.1 _ (by decide)) (by omega) (Or.inl (by omega)) (fun hF => ?_)
                refine V_iinc_3 hx (by first | exact nc_I | exact nc_R | exact nc_n) dX10_ticks_97 ?_
                refine V_goto (tgt := 43) hx dX10_ticks_100 (by decide) ?_
                refine V_drop_4 ?_
                first
                  | (have ek : kGo M t = goM (goJ M) t := by unfold kGo; rw [cif_t (by omega)]
                     rw [← ek] at eI
                     exact ih _ ⟨hF, by rw [eI]; exact hPs M hPM (by omega) (by omega), by rw [eI, hk6]; omega, by rw [eI, hk6]; omega⟩)
                  | (have ek : kGo M t = up I1 (25 + 2 * M r 1) 5 (M (25 + 2 * M r 1) 5 + M r 4) := by unfold kGo; rw [cif_f (by omega), eI, er]
                     rw [← ek] at hF ⊢
                     exact ih _ ⟨hF, hPs M hPM (by omega) (by omega), by rw [hk6]; omega, by rw [hk6]; omega⟩)
      · refine V_bipush hx dX10_ticks_28 (by decide) ?_
        refine V_ireturn hx dX10_ticks_30 (by omega) (by omega) ?_
        exact ⟨_, rfl, rfl, hF, fun h => absurd h (by omega), fun _ => rfl, by unfold aTicks; rw [cif_t (by omega), cif_t (by omega)]⟩
    · refine V_iconst hx dX10_ticks_12 ?_
      refine V_ireturn hx dX10_ticks_13 (by omega) (by omega) ?_
      exact ⟨_, rfl, rfl, hF, fun h => absurd h (by omega), fun _ => rfl, by unfold aTicks; rw [cif_f (by omega)]⟩

