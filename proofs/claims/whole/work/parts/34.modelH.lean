set_option maxRecDepth 8000 in
theorem c_X11_copy {l : Launch} {d : Dd} {z : Nat} {N : Int} {I : Mm} {f i0 t j n : Int} (hN : 67 ≤ N) (hF : Fx I) (hs0 : ∀ q : Int, 0 ≤ q → q ≤ 3 → 0 ≤ I 59 q ∧ I 59 q ≤ 24) (hf : -2147483648 ≤ f ∧ f ≤ 2147483647) (hi0 : -2147483648 ≤ i0 ∧ i0 ≤ 2147483647) (ht : -2147483648 ≤ t ∧ t ≤ 2147483647) (hj : -2147483648 ≤ j ∧ j ≤ 2147483647) (hn : -2147483648 ≤ n ∧ n ≤ 2147483647) : Cn l d z yX11_copy cX11_copy 8 (some .int) 2 45 0 0 [vR z 49, vI f, vI i0, vI t, vI j, vI n] N I (pI (fun r N' I' => r = aCopy I f i0 t j n ∧ N' = N ∧ Fx I' ∧ (okCopy I f i0 t j n → ∀ a q : Int, a ≠ 61 → I' a q = gCopy I f i0 t j n a q) ∧ (¬ okCopy I f i0 t j n → I' = I))) := by
  refine Cn.ofA [(vR z 49, false), (vI f, false), (vI i0, false), (vI t, false), (vI j, false), (vI n, false)] [some (vR z 49), some (vI f), some (vI i0), some (vI t), some (vI j), some (vI n), none, none] RX11 (by decide) rfl ⟨cR z 49, rfl, rfl, rfl, rfl, rfl, trivial⟩ (Nat.le_of_ble_eq_true rfl) rfl (fun x ed el hx hini => ?_)
  refine V_iload_1 hx dX11_copy_0 ?_
  refine V_s1P hx el ed (c_X11_isSheet (by omega)) myX11_isSheet mlX11_140 dX11_copy_1 (by decide) (by omega) rfl (by first | exact Nat.le_of_ble_eq_true rfl | simp [vI, vL, vR_cat, Value.category]) ?_
  refine V_ifB_eq (tgt := 14) hx dX11_copy_4 (by decide) (fun h4 => ?_) (fun h4 => ?_)
  · refine V_iconst hx dX11_copy_14 ?_
    refine V_ireturn hx dX11_copy_15 (by omega) (by omega) ?_
    exact ⟨_, rfl, by unfold aCopy; (repeat (first | rw [cif_t (by first | omega | assumption)] | rw [cif_f (by first | omega | assumption)])); all_goals (first | omega | (exfalso; omega)), rfl, hF, fun h => absurd h (by unfold okCopy; omega), fun _ => rfl⟩
  · refine V_iload_3 hx dX11_copy_7 ?_
    refine V_s1P hx el ed (c_X11_isSheet (by omega)) myX11_isSheet mlX11_140 dX11_copy_8 (by decide) (by omega) rfl (by first | exact Nat.le_of_ble_eq_true rfl | simp [vI, vL, vR_cat, Value.category]) ?_
    refine V_ifB_ne (tgt := 16) hx dX11_copy_11 (by decide) (fun h11 => ?_) (fun h11 => ?_)
    · refine V_aload_0 hx dX11_copy_16 ?_
      refine V_getRe hx flX11_34 dX11_copy_17 rfl (k49 hN) (hF.1 49 15 58 rfl) ?_
      refine V_iload_1 hx dX11_copy_20 ?_
      refine V_ialoadx hx hF dX11_copy_21 (k58 hN) (by decide) (by omega) (fun r21 => ?_)
      refine V_bipush hx dX11_copy_22 (by decide) ?_
      refine V_icmp_eq (tgt := 38) hx dX11_copy_24 (by decide) (by omega) (by omega) (fun h24 => ?_) (fun h24 => ?_)
      · refine V_bipush hx dX11_copy_38 (by decide) ?_
        refine V_ireturn hx dX11_copy_40 (by omega) (by omega) ?_
        exact ⟨_, rfl, by unfold aCopy; (repeat (first | rw [cif_t (by first | omega | assumption)] | rw [cif_f (by first | omega | assumption)])); all_goals (first | omega | (exfalso; omega)), rfl, hF, fun h => absurd h (by unfold okCopy; omega), fun _ => rfl⟩
      · refine V_aload_0 hx dX11_copy_27 ?_
        refine V_getRe hx flX11_34 dX11_copy_28 rfl (k49 hN) (hF.1 49 15 58 rfl) ?_
        refine V_iload_3 hx dX11_copy_31 ?_
        refine V_ialoadx hx hF dX11_copy_32 (k58 hN) (by decide) (by omega) (fun r32 => ?_)
        refine V_bipush hx dX11_copy_33 (by decide) ?_
        refine V_icmp_ne (tgt := 41) hx dX11_copy_35 (by decide) (by omega) (by omega) (fun h35 => ?_) (fun h35 => ?_)
        · refine V_aload_0 hx dX11_copy_41 ?_
          refine V_iload_1 hx dX11_copy_42 ?_
          refine V_aload_0 hx dX11_copy_43 ?_
          refine V_getRe hx flX11_34 dX11_copy_44 rfl (k49 hN) (hF.1 49 15 58 rfl) ?_
          refine V_iload_3 hx dX11_copy_47 ?_
          refine V_ialoadx hx hF dX11_copy_48 (k58 hN) (by decide) (by omega) (fun r48 => ?_)
          refine V_iload_2 hx dX11_copy_49 ?_
          refine V_iload_5 hx dX11_copy_50 ?_
          refine V_v4Q hx el ed (c_X11_wrong hN hF (by omega) (by omega) (by omega) (by omega)) myX11_wrong mlX11_146 dX11_copy_52 ⟨_, rfl, rfl⟩ (k49 hN) (by decide) (by omega) rfl (by first | exact Nat.le_of_ble_eq_true rfl | simp [vI, vL, vR_cat, Value.category]) (fun r52 => ?_)
          refine V_istore_6 hx (by first | exact nc_I | exact nc_R | exact nc_n) dX11_copy_55 ?_
          have hw1 := wrF_1 (I := I) (s := f) (lane := I 58 t) (i := i0) (n := n)
          have hq1 := hs0 f (by omega) (by omega)
          refine V_iload_6 hx dX11_copy_57 ?_
          refine V_iconst hx dX11_copy_59 ?_
          refine V_icmp_ne (tgt := 81) hx dX11_copy_60 (by decide) (by omega) (by omega) (fun h60 => ?_) (fun h60 => ?_)
          · refine V_iload_6 hx dX11_copy_81 ?_
            refine V_istore_6 hx (by first | exact nc_I | exact nc_R | exact nc_n) dX11_copy_83 ?_
            have hw2 := wrF_1 (I := I) (s := t) (lane := I 58 t) (i := j) (n := n)
            have hq2 := hs0 t (by omega) (by omega)
            refine V_iload_6 hx dX11_copy_85 ?_
            refine V_iconst hx dX11_copy_87 ?_
            refine V_icmp_eq (tgt := 94) hx dX11_copy_88 (by decide) (by omega) (by omega) (fun h88 => ?_) (fun h88 => ?_)
            · refine V_iconst hx dX11_copy_94 ?_
              refine V_istore_7 hx (by first | exact nc_I | exact nc_R | exact nc_n) dX11_copy_95 ?_
              (try rw [show wrF I t (I 58 t) j n = 1 by omega])
              (try rw [show wrF I f (I 58 t) i0 n = 1 by omega])
              have hok : okCopy I f i0 t j n := ⟨by omega, by omega, by omega, by omega⟩
              refine loop_inv (α := Mm) 0 n (by omega) (fun i M => Fx M ∧ (∀ a q : Int, a ≠ 61 → M a q = I a q) ∧ ∀ q : Int, 0 ≤ q → q < i → M 61 q = I 60 (24 * f + (i0 + q))) (fun i M => V x z _ N M 0 0 97 [some (vR z 49), some (vI f), some (vI i0), some (vI t), some (vI j), some (vI n), some (vI 1), some (vI i)] []) ?_ ?_ _ ⟨hF, fun _ _ _ => rfl, fun q a b => by omega⟩
              · rintro M1 ⟨hF, hM, hG⟩
                refine V_iload_7 hx dX11_copy_97 ?_
                refine V_iload_5 hx dX11_copy_99 ?_
                refine V_icmp_ge (tgt := 126) hx dX11_copy_101 (by decide) (by omega) (by omega) (fun h101 => ?_) (fun h101 => ?_)
                · refine V_iconst hx dX11_copy_126 ?_
                  refine V_istore_7 hx (by first | exact nc_I | exact nc_R | exact nc_n) dX11_copy_127 ?_
                  refine loop_inv (α := Mm) 0 n (by omega) (fun i M => Fx M ∧ (∀ a q : Int, a ≠ 61 → M a q = gCopy I f i0 t j i a q) ∧ ∀ q : Int, 0 ≤ q → q < n → M 61 q = I 60 (24 * f + (i0 + q))) (fun i M => V x z _ N M 0 0 129 [some (vR z 49), some (vI f), some (vI i0), some (vI t), some (vI j), some (vI n), some (vI 1), some (vI i)] []) ?_ ?_ _ ⟨hF, fun a q ha => by unfold gCopy; rw [cif_f (by omega)]; exact hM a q ha, hG⟩
                  · rintro M ⟨hF, hM2, hG2⟩
                    refine V_iload_7 hx dX11_copy_129 ?_
                    refine V_iload_5 hx dX11_copy_131 ?_
                    refine V_icmp_ge (tgt := 164) hx dX11_copy_133 (by decide) (by omega) (by omega) (fun h133 => ?_) (fun h133 => ?_)
                    · refine V_iload_5 hx dX11_copy_164 ?_
                      refine V_ireturn hx dX11_copy_166 (by omega) (by omega) ?_
                      exact ⟨_, rfl, by unfold aCopy; (repeat (first | rw [cif_t (by first | omega | assumption)] | rw [cif_f (by first | omega | assumption)])); all_goals (first | omega | (exfalso; omega)), rfl, hF, fun _ => hM2, fun h => absurd hok h⟩
                    · exfalso; omega
                  · rintro i M hi0 hi1 ⟨hF, hM2, hG2⟩ ih
                    refine V_iload_7 hx dX11_copy_129 ?_
                    refine V_iload_5 hx dX11_copy_131 ?_
                    refine V_icmp_ge (tgt := 164) hx dX11_copy_133 (by decide) (by omega) (by omega) (fun h133 => ?_) (fun h133 => ?_)
                    · exfalso; omega
                    · refine V_aload_0 hx dX11_copy_136 ?_
                      refine V_getRe hx flX11_40 dX11_copy_137 rfl (k49 hN) (hF.1 49 17 60 rfl) ?_
                      refine V_bipush hx dX11_copy_140 (by decide) ?_
                      refine V_iload_3 hx dX11_copy_142 ?_
                      refine V_imul hx dX11_copy_143 ?_
                      refine V_iload_4 hx dX11_copy_144 ?_
                      refine V_iadd hx dX11_copy_146 ?_
                      refine V_iload_7 hx dX11_copy_147 ?_
                      refine V_iadd hx dX11_copy_149 ?_
                      refine V_aload_0 hx dX11_copy_150 ?_
                      refine V_getRe hx flX11_43 dX11_copy_151 rfl (k49 hN) (hF.1 49 18 61 rfl) ?_
                      refine V_iload_7 hx dX11_copy_154 ?_
                      refine V_ialoadx hx hF dX11_copy_156 (k61 hN) (by decide) (by omega) (fun r156 => ?_)
                      refine V_iastorex hx hF dX11_copy_157 (k60 hN) (by decide) (by omega) (fx_none rfl _) (by omega) (Or.inl (by decide)) (fun hF => ?_)
                      refine V_iinc_7 hx (by first | exact nc_I | exact nc_R | exact nc_n) dX11_copy_158 ?_
                      refine V_goto (tgt := 129) hx dX11_copy_161 (by decide) ?_
                      refine ih _ ⟨hF, fun a q ha => ?_, fun q q0 q1 => by rw [up_c (by decide)]; exact hG2 q q0 q1⟩
                      by_cases hqi : a = 60 ∧ q = 24 * t + j + i
                      · obtain ⟨ha2, hq2⟩ := hqi
                        subst ha2; subst hq2
                        rw [up_s, hG2 i hi0 hi1]
                        unfold gCopy
                        rw [cif_t (by omega)]
                        congr 2; omega
                      · rw [up_n (by omega), hM2 a q ha]
                        unfold gCopy
                        exact cif_iff (by omega)
                · exfalso; omega
              · rintro i M hi0 hi1 ⟨hF, hM, hG⟩ ih
                refine V_iload_7 hx dX11_copy_97 ?_
                refine V_iload_5 hx dX11_copy_99 ?_
                refine V_icmp_ge (tgt := 126) hx dX11_copy_101 (by decide) (by omega) (by omega) (fun h101 => ?_) (fun h101 => ?_)
                · exfalso; omega
                · refine V_aload_0 hx dX11_copy_104 ?_
                  refine V_getRe hx flX11_43 dX11_copy_105 rfl (k49 hN) (hF.1 49 18 61 rfl) ?_
                  refine V_iload_7 hx dX11_copy_108 ?_
                  refine V_aload_0 hx dX11_copy_110 ?_
                  refine V_iload_1 hx dX11_copy_111 ?_
                  refine V_iload_2 hx dX11_copy_112 ?_
                  refine V_iload_7 hx dX11_copy_113 ?_
                  refine V_iadd hx dX11_copy_115 ?_
                  refine V_v2Q hx el ed (c_X11_itemOf hN hF (by omega)) myX11_itemOf mlX11_150 dX11_copy_116 ⟨_, rfl, rfl⟩ (k49 hN) (by decide) (by omega) rfl (by first | exact Nat.le_of_ble_eq_true rfl | simp [vI, vL, vR_cat, Value.category]) (fun r116 => ?_)
                  refine V_iastorex hx hF dX11_copy_119 (k61 hN) (by decide) (by omega) (fx_none rfl _) (by omega) (Or.inl (by decide)) (fun hF => ?_)
                  refine V_iinc_7 hx (by first | exact nc_I | exact nc_R | exact nc_n) dX11_copy_120 ?_
                  refine V_goto (tgt := 97) hx dX11_copy_123 (by decide) ?_
                  refine ih _ ⟨hF, fun a q ha => by rw [up_c ha]; exact hM a q ha, fun q q0 q1 => ?_⟩
                  by_cases hqi : q = i
                  · subst hqi; rw [up_s]; exact hM 60 _ (by decide)
                  · rw [up_k hqi]; exact hG q q0 (by omega)
            · refine V_iload_6 hx dX11_copy_91 ?_
              refine V_ireturn hx dX11_copy_93 (by omega) (by omega) ?_
              exact ⟨_, rfl, by unfold aCopy; (repeat (first | rw [cif_t (by first | omega | assumption)] | rw [cif_f (by first | omega | assumption)])); all_goals (first | omega | (exfalso; omega)), rfl, hF, fun h => absurd h (by unfold okCopy; omega), fun _ => rfl⟩
          · refine V_aload_0 hx dX11_copy_63 ?_
            refine V_iload_3 hx dX11_copy_64 ?_
            refine V_aload_0 hx dX11_copy_65 ?_
            refine V_getRe hx flX11_34 dX11_copy_66 rfl (k49 hN) (hF.1 49 15 58 rfl) ?_
            refine V_iload_3 hx dX11_copy_69 ?_
            refine V_ialoadx hx hF dX11_copy_70 (k58 hN) (by decide) (by omega) (fun r70 => ?_)
            refine V_iload_4 hx dX11_copy_71 ?_
            refine V_iload_5 hx dX11_copy_73 ?_
            refine V_v4Q hx el ed (c_X11_wrong hN hF (by omega) (by omega) (by omega) (by omega)) myX11_wrong mlX11_146 dX11_copy_75 ⟨_, rfl, rfl⟩ (k49 hN) (by decide) (by omega) rfl (by first | exact Nat.le_of_ble_eq_true rfl | simp [vI, vL, vR_cat, Value.category]) (fun r75 => ?_)
            refine V_goto (tgt := 83) hx dX11_copy_78 (by decide) ?_
            refine V_istore_6 hx (by first | exact nc_I | exact nc_R | exact nc_n) dX11_copy_83 ?_
            have hw2 := wrF_1 (I := I) (s := t) (lane := I 58 t) (i := j) (n := n)
            have hq2 := hs0 t (by omega) (by omega)
            refine V_iload_6 hx dX11_copy_85 ?_
            refine V_iconst hx dX11_copy_87 ?_
            refine V_icmp_eq (tgt := 94) hx dX11_copy_88 (by decide) (by omega) (by omega) (fun h88 => ?_) (fun h88 => ?_)
            · refine V_iconst hx dX11_copy_94 ?_
              refine V_istore_7 hx (by first | exact nc_I | exact nc_R | exact nc_n) dX11_copy_95 ?_
              (try rw [show wrF I t (I 58 t) j n = 1 by omega])
              (try rw [show wrF I f (I 58 t) i0 n = 1 by omega])
              have hok : okCopy I f i0 t j n := ⟨by omega, by omega, by omega, by omega⟩
              refine loop_inv (α := Mm) 0 n (by omega) (fun i M => Fx M ∧ (∀ a q : Int, a ≠ 61 → M a q = I a q) ∧ ∀ q : Int, 0 ≤ q → q < i → M 61 q = I 60 (24 * f + (i0 + q))) (fun i M => V x z _ N M 0 0 97 [some (vR z 49), some (vI f), some (vI i0), some (vI t), some (vI j), some (vI n), some (vI 1), some (vI i)] []) ?_ ?_ _ ⟨hF, fun _ _ _ => rfl, fun q a b => by omega⟩
              · rintro M1 ⟨hF, hM, hG⟩
                refine V_iload_7 hx dX11_copy_97 ?_
                refine V_iload_5 hx dX11_copy_99 ?_
                refine V_icmp_ge (tgt := 126) hx dX11_copy_101 (by decide) (by omega) (by omega) (fun h101 => ?_) (fun h101 => ?_)
                · refine V_iconst hx dX11_copy_126 ?_
                  refine V_istore_7 hx (by first | exact nc_I | exact nc_R | exact nc_n) dX11_copy_127 ?_
                  refine loop_inv (α := Mm) 0 n (by omega) (fun i M => Fx M ∧ (∀ a q : Int, a ≠ 61 → M a q = gCopy I f i0 t j i a q) ∧ ∀ q : Int, 0 ≤ q → q < n → M 61 q = I 60 (24 * f + (i0 + q))) (fun i M => V x z _ N M 0 0 129 [some (vR z 49), some (vI f), some (vI i0), some (vI t), some (vI j), some (vI n), some (vI 1), some (vI i)] []) ?_ ?_ _ ⟨hF, fun a q ha => by unfold gCopy; rw [cif_f (by omega)]; exact hM a q ha, hG⟩
                  · rintro M ⟨hF, hM2, hG2⟩
                    refine V_iload_7 hx dX11_copy_129 ?_
                    refine V_iload_5 hx dX11_copy_131 ?_
                    refine V_icmp_ge (tgt := 164) hx dX11_copy_133 (by decide) (by omega) (by omega) (fun h133 => ?_) (fun h133 => ?_)
                    · refine V_iload_5 hx dX11_copy_164 ?_
                      refine V_ireturn hx dX11_copy_166 (by omega) (by omega) ?_
                      exact ⟨_, rfl, by unfold aCopy; (repeat (first | rw [cif_t (by first | omega | assumption)] | rw [cif_f (by first | omega | assumption)])); all_goals (first | omega | (exfalso; omega)), rfl, hF, fun _ => hM2, fun h => absurd hok h⟩
                    · exfalso; omega
                  · rintro i M hi0 hi1 ⟨hF, hM2, hG2⟩ ih
                    refine V_iload_7 hx dX11_copy_129 ?_
                    refine V_iload_5 hx dX11_copy_131 ?_
                    refine V_icmp_ge (tgt := 164) hx dX11_copy_133 (by decide) (by omega) (by omega) (fun h133 => ?_) (fun h133 => ?_)
                    · exfalso; omega
                    · refine V_aload_0 hx dX11_copy_136 ?_
                      refine V_getRe hx flX11_40 dX11_copy_137 rfl (k49 hN) (hF.1 49 17 60 rfl) ?_
                      refine V_bipush hx dX11_copy_140 (by decide) ?_
                      refine V_iload_3 hx dX11_copy_142 ?_
                      refine V_imul hx dX11_copy_143 ?_
                      refine V_iload_4 hx dX11_copy_144 ?_
                      refine V_iadd hx dX11_copy_146 ?_
                      refine V_iload_7 hx dX11_copy_147 ?_
                      refine V_iadd hx dX11_copy_149 ?_
                      refine V_aload_0 hx dX11_copy_150 ?_
                      refine V_getRe hx flX11_43 dX11_copy_151 rfl (k49 hN) (hF.1 49 18 61 rfl) ?_
                      refine V_iload_7 hx dX11_copy_154 ?_
                      refine V_ialoadx hx hF dX11_copy_156 (k61 hN) (by decide) (by omega) (fun r156 => ?_)
                      refine V_iastorex hx hF dX11_copy_157 (k60 hN) (by decide) (by omega) (fx_none rfl _) (by omega) (Or.inl (by decide)) (fun hF => ?_)
                      refine V_iinc_7 hx (by first | exact nc_I | exact nc_R | exact nc_n) dX11_copy_158 ?_
                      refine V_goto (tgt := 129) hx dX11_copy_161 (by decide) ?_
                      refine ih _ ⟨hF, fun a q ha => ?_, fun q q0 q1 => by rw [up_c (by decide)]; exact hG2 q q0 q1⟩
                      by_cases hqi : a = 60 ∧ q = 24 * t + j + i
                      · obtain ⟨ha2, hq2⟩ := hqi
                        subst ha2; subst hq2
                        rw [up_s, hG2 i hi0 hi1]
                        unfold gCopy
                        rw [cif_t (by omega)]
                        congr 2; omega
                      · rw [up_n (by omega), hM2 a q ha]
                        unfold gCopy
                        exact cif_iff (by omega)
                · exfalso; omega
              · rintro i M hi0 hi1 ⟨hF, hM, hG⟩ ih
                refine V_iload_7 hx dX11_copy_97 ?_
                refine V_iload_5 hx dX11_copy_99 ?_
                refine V_icmp_ge (tgt := 126) hx dX11_copy_101 (by decide) (by omega) (by omega) (fun h101 => ?_) (fun h101 => ?_)
                · exfalso; omega
                · refine V_aload_0 hx dX11_copy_104 ?_
                  refine V_getRe hx flX11_43 dX11_copy_105 rfl (k49 hN) (hF.1 49 18 61 rfl) ?_
                  refine V_iload_7 hx dX11_copy_108 ?_
                  refine V_aload_0 hx dX11_copy_110 ?_
                  refine V_iload_1 hx dX11_copy_111 ?_
                  refine V_iload_2 hx dX11_copy_112 ?_
                  refine V_iload_7 hx dX11_copy_113 ?_
                  refine V_iadd hx dX11_copy_115 ?_
                  refine V_v2Q hx el ed (c_X11_itemOf hN hF (by omega)) myX11_itemOf mlX11_150 dX11_copy_116 ⟨_, rfl, rfl⟩ (k49 hN) (by decide) (by omega) rfl (by first | exact Nat.le_of_ble_eq_true rfl | simp [vI, vL, vR_cat, Value.category]) (fun r116 => ?_)
                  refine V_iastorex hx hF dX11_copy_119 (k61 hN) (by decide) (by omega) (fx_none rfl _) (by omega) (Or.inl (by decide)) (fun hF => ?_)
                  refine V_iinc_7 hx (by first | exact nc_I | exact nc_R | exact nc_n) dX11_copy_120 ?_
                  refine V_goto (tgt := 97) hx dX11_copy_123 (by decide) ?_
                  refine ih _ ⟨hF, fun a q ha => by rw [up_c ha]; exact hM a q ha, fun q q0 q1 => ?_⟩
                  by_cases hqi : q = i
                  · subst hqi; rw [up_s]; exact hM 60 _ (by decide)
                  · rw [up_k hqi]; exact hG q q0 (by omega)
            · refine V_iload_6 hx dX11_copy_91 ?_
              refine V_ireturn hx dX11_copy_93 (by omega) (by omega) ?_
              exact ⟨_, rfl, by unfold aCopy; (repeat (first | rw [cif_t (by first | omega | assumption)] | rw [cif_f (by first | omega | assumption)])); all_goals (first | omega | (exfalso; omega)), rfl, hF, fun h => absurd h (by unfold okCopy; omega), fun _ => rfl⟩
        · refine V_bipush hx dX11_copy_38 (by decide) ?_
          refine V_ireturn hx dX11_copy_40 (by omega) (by omega) ?_
          exact ⟨_, rfl, by unfold aCopy; (repeat (first | rw [cif_t (by first | omega | assumption)] | rw [cif_f (by first | omega | assumption)])); all_goals (first | omega | (exfalso; omega)), rfl, hF, fun h => absurd h (by unfold okCopy; omega), fun _ => rfl⟩
    · refine V_iconst hx dX11_copy_14 ?_
      refine V_ireturn hx dX11_copy_15 (by omega) (by omega) ?_
      exact ⟨_, rfl, by unfold aCopy; (repeat (first | rw [cif_t (by first | omega | assumption)] | rw [cif_f (by first | omega | assumption)])); all_goals (first | omega | (exfalso; omega)), rfl, hF, fun h => absurd h (by unfold okCopy; omega), fun _ => rfl⟩

set_option maxRecDepth 8000 in
theorem c_X11_type {l : Launch} {d : Dd} {z : Nat} {N : Int} {I : Mm} {w n : Int} (hN : 67 ≤ N) (hF : Fx I) (hty : 0 ≤ I 49 20 ∧ I 49 20 ≤ 40) (hw : -9223372036854775808 ≤ w ∧ w ≤ 9223372036854775807) (hn : -2147483648 ≤ n ∧ n ≤ 2147483647) : Cn l d z yX11_type cX11_type 5 (some .int) 1 25 0 0 [vR z 49, vL w, vI n] N I (pI (fun r N' I' => r = aType I w n ∧ I' = gType I w n ∧ N' = N ∧ Fx I')) := by
  refine Cn.ofA [(vR z 49, false), (vL w, true), (vI n, false)] [some (vR z 49), some (vL w), none, some (vI n), none] RX11 (by decide) rfl ⟨cR z 49, rfl, rfl, trivial⟩ (Nat.le_of_ble_eq_true rfl) rfl (fun x ed el hx hini => ?_)
  refine V_iload_3 hx dX11_type_0 ?_
  refine V_i2l hx dX11_type_1 (by omega) ?_
  refine V_lconst (v := 1) hx dX11_type_2 (by decide) ?_
  refine V_ldc2 (v := 8) hx kcX11_155 dX11_type_3 (by decide) ?_
  refine V_s3P hx el ed (c_X11_in (by omega) (by omega) (by omega)) myX11_in mlX11_70 dX11_type_6 (by decide) (by omega) rfl (by first | exact Nat.le_of_ble_eq_true rfl | simp [vI, vL, vR_cat, Value.category]) ?_
  refine V_ifB_ne (tgt := 14) hx dX11_type_9 (by decide) (fun h9 => ?_) (fun h9 => ?_)
  · refine V_iconst hx dX11_type_14 ?_
    refine V_istore_4 hx (by first | exact nc_I | exact nc_R | exact nc_n) dX11_type_15 ?_
    refine loop_inv (α := Unit) 0 n (by omega) (fun i _ => okB w i) (fun i _ => V x z _ N I 0 0 17 [some (vR z 49), some (vL w), none, some (vI n), some (vI i)] []) ?_ ?_ () (fun k a b => by omega)
    · rintro _ hok
      refine V_iload_4 hx dX11_type_17 ?_
      refine V_iload_3 hx dX11_type_19 ?_
      refine V_icmp_ge (tgt := 54) hx dX11_type_20 (by decide) (by omega) (by omega) (fun h20 => ?_) (fun h20 => ?_)
      · refine V_aload_0 hx dX11_type_54 ?_
        refine V_getIx 20 hx hF flX11_163 dX11_type_55 rfl rfl (k49 hN) (fun r55 => ?_)
        refine V_iload_3 hx dX11_type_58 ?_
        refine V_iadd hx dX11_type_59 ?_
        refine V_bipush hx dX11_type_60 (by decide) ?_
        refine V_icmp_le (tgt := 68) hx dX11_type_62 (by decide) (by omega) (by omega) (fun h62 => ?_) (fun h62 => ?_)
        · refine V_iload_3 hx dX11_type_68 ?_
          refine V_iconst hx dX11_type_69 ?_
          refine V_isub hx dX11_type_70 ?_
          refine V_istore_4 hx (by first | exact nc_I | exact nc_R | exact nc_n) dX11_type_71 ?_
          rw [show (n - 1 : Int) = n - 1 - 0 by omega]
          refine loop_inv (α := Mm) 0 n (by omega) (fun i M => M = gTypeN I w n i.toNat ∧ Fx M ∧ M 49 20 = I 49 20 + i) (fun i M => V x z _ N M 0 0 73 [some (vR z 49), some (vL w), none, some (vI n), some (vI (n - 1 - i))] []) ?_ ?_ _ ⟨rfl, hF, by omega⟩
          · rintro M ⟨eM, hF, hM⟩
            refine V_iload_4 hx dX11_type_73 ?_
            refine V_if_lt (tgt := 115) hx dX11_type_75 (by decide) (by omega) (fun h75 => ?_) (fun h75 => ?_)
            · refine V_aload_0 hx dX11_type_115 ?_
              refine V_getIx 20 hx hF flX11_163 dX11_type_116 rfl rfl (k49 hN) (fun r116 => ?_)
              refine V_ireturn hx dX11_type_119 (by omega) (by omega) ?_
              exact ⟨_, rfl, by unfold aType; (repeat (first | rw [cif_t (by first | omega | assumption)] | rw [cif_f (by first | omega | assumption)])); all_goals (first | omega | (exfalso; omega)), by unfold gType; rw [eM, cif_t ⟨by omega, hok, by omega⟩], rfl, hF⟩
            · exfalso; omega
          · rintro i M hi0 hi1 ⟨eM, hF, hM⟩ ih
            refine V_iload_4 hx dX11_type_73 ?_
            refine V_if_lt (tgt := 115) hx dX11_type_75 (by decide) (by omega) (fun h75 => ?_) (fun h75 => ?_)
            · exfalso; omega
            · refine V_aload_0 hx dX11_type_78 ?_
              refine V_getRe hx flX11_46 dX11_type_79 rfl (k49 hN) (hF.1 49 19 62 rfl) ?_
              refine V_aload_0 hx dX11_type_82 ?_
              refine V_getIx 20 hx hF flX11_163 dX11_type_83 rfl rfl (k49 hN) (fun r83 => ?_)
              refine V_lload_1 hx dX11_type_86 ?_
              refine V_bipush hx dX11_type_87 (by decide) ?_
              refine V_iload_4 hx dX11_type_89 ?_
              refine V_imul hx dX11_type_91 ?_
              refine V_lshr hx (w / 2 ^ (8 * (n - 1 - i)).toNat) dX11_type_92 (oL_shrk hw (by omega)) ?_
              refine V_ldc2 (v := 255) hx kcX11_157 dX11_type_93 (by decide) ?_
              refine V_land hx (w / 2 ^ (8 * (n - 1 - i)).toNat % 256) dX11_type_96 (oL_land _) ?_
              have hbb := bt_b w (n - 1 - i)
              unfold bt at hbb
              refine V_l2i hx dX11_type_97 ?_
              have hoi := hok (n - 1 - i) (by omega) (by omega)
              unfold bt at hoi
              refine V_iastorex hx hF dX11_type_98 (k62 hN) (by decide) (by omega) (fx_none rfl _) (by omega) (Or.inl (by decide)) (fun hF => ?_)
              refine V_aload_0 hx dX11_type_99 ?_
              refine V_dupR hx dX11_type_100 ?_
              refine V_getIx 20 hx hF flX11_163 dX11_type_101 rfl rfl (k49 hN) (fun r101 => ?_)
              (try simp only [up_s, up_c, up_row, up_k, ne_eq, Int.reduceEq, not_false_eq_true] at r101 ⊢)
              refine V_iconst hx dX11_type_104 ?_
              refine V_iadd hx dX11_type_105 ?_
              refine V_putIx 20 hx hF flX11_163 dX11_type_106 rfl rfl (fun r h => by cases h; rfl) (k49 hN) rfl (by omega) (Or.inl (by decide)) (fun hF => ?_)
              refine V_iinc_4 hx (by first | exact nc_I | exact nc_R | exact nc_n) dX11_type_109 ?_
              refine V_goto (tgt := 73) hx dX11_type_112 (by decide) ?_
              rw [show n - 1 - i + -1 = n - 1 - (i + 1) by omega]
              refine ih _ ⟨?_, hF, by rw [up_s]; omega⟩
              unfold gTypeN
              rw [fld_s _ _ hi0, hM, eM]
              rfl
        · refine V_bipush hx dX11_type_65 (by decide) ?_
          refine V_ireturn hx dX11_type_67 (by omega) (by omega) ?_
          exact ⟨_, rfl, by unfold aType; (repeat (first | rw [cif_t (by first | omega | assumption)] | rw [cif_f (by first | omega | assumption)])); all_goals (first | omega | (exfalso; omega)), by unfold gType; rw [cif_f (by omega)], rfl, hF⟩
      · exfalso; omega
    · rintro i _ hi0 hi1 hok ih
      refine V_iload_4 hx dX11_type_17 ?_
      refine V_iload_3 hx dX11_type_19 ?_
      refine V_icmp_ge (tgt := 54) hx dX11_type_20 (by decide) (by omega) (by omega) (fun h20 => ?_) (fun h20 => ?_)
      · exfalso; omega
      · refine V_lload_1 hx dX11_type_23 ?_
        refine V_bipush hx dX11_type_24 (by decide) ?_
        refine V_iload_4 hx dX11_type_26 ?_
        refine V_imul hx dX11_type_28 ?_
        refine V_lshr hx (w / 2 ^ (8 * (i)).toNat) dX11_type_29 (oL_shrk hw (by omega)) ?_
        refine V_ldc2 (v := 255) hx kcX11_157 dX11_type_30 (by decide) ?_
        refine V_land hx (w / 2 ^ (8 * (i)).toNat % 256) dX11_type_33 (oL_land _) ?_
        have hbb := bt_b w (i)
        unfold bt at hbb
        refine V_ldc2 (v := 32) hx kcX11_159 dX11_type_34 (by decide) ?_
        refine V_ldc2 (v := 126) hx kcX11_161 dX11_type_37 (by decide) ?_
        refine V_s3P hx el ed (c_X11_in (by omega) (by omega) (by omega)) myX11_in mlX11_70 dX11_type_40 (by decide) (by omega) rfl (by first | exact Nat.le_of_ble_eq_true rfl | simp [vI, vL, vR_cat, Value.category]) ?_
        refine V_ifB_ne (tgt := 48) hx dX11_type_43 (by decide) (fun h43 => ?_) (fun h43 => ?_)
        · refine V_iinc_4 hx (by first | exact nc_I | exact nc_R | exact nc_n) dX11_type_48 ?_
          refine V_goto (tgt := 17) hx dX11_type_51 (by decide) ?_
          refine ih () (fun k k0 k1 => ?_)
          by_cases hk : k = i
          · subst hk; unfold bt; omega
          · exact hok k k0 (by omega)
        · refine V_iconst hx dX11_type_46 ?_
          refine V_ireturn hx dX11_type_47 (by omega) (by omega) ?_
          have hno : ¬ okB w n := fun q => by have := q i hi0 hi1; unfold bt at this; omega
          exact ⟨_, rfl, by unfold aType; (repeat (first | rw [cif_t (by first | omega | assumption)] | rw [cif_f (by first | omega | assumption)])); all_goals (first | omega | (exfalso; omega)), by unfold gType; rw [cif_f (fun q => hno q.2.1)], rfl, hF⟩
  · refine V_iconst hx dX11_type_12 ?_
    refine V_ireturn hx dX11_type_13 (by omega) (by omega) ?_
    exact ⟨_, rfl, by unfold aType; (repeat (first | rw [cif_t (by first | omega | assumption)] | rw [cif_f (by first | omega | assumption)])); all_goals (first | omega | (exfalso; omega)), by unfold gType; rw [cif_f (by omega)], rfl, hF⟩

