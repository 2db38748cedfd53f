set_option maxRecDepth 8000 in
theorem c_X11_found {l : Launch} {d : Dd} {z : Nat} {N : Int} {I : Mm} {s lane i0 n : Int} (hN : 67 ≤ N) (hF : Fx I) (hs0 : ∀ q : Int, 0 ≤ q → q ≤ 3 → 0 ≤ I 59 q ∧ I 59 q ≤ 24) (hm : 0 ≤ I 49 6 ∧ I 49 6 ≤ 1000) (hW : ∀ w c : Int, 0 ≤ w → w < I 49 6 → 0 ≤ c → c ≤ 3 → 0 ≤ I 55 (13 * w + c) ∧ I 55 (13 * w + c) ≤ 200000) (hs : -2147483648 ≤ s ∧ s ≤ 2147483647) (hlane : -2147483648 ≤ lane ∧ lane ≤ 2147483647) (hi0 : -2147483648 ≤ i0 ∧ i0 ≤ 2147483647) (hn : -2147483648 ≤ n ∧ n ≤ 2147483647) : Cn l d z yX11_found cX11_found 7 (some .int) 2 50 0 0 [vR z 49, vI s, vI lane, vI i0, vI n] N I (pI (fun r N' I' => N' = N ∧ Fx I' ∧ r = aFound I s lane i0 n ∧ ∀ a q : Int, a ≠ 61 → I' a q = I a q)) := by
  refine Cn.ofA [(vR z 49, false), (vI s, false), (vI lane, false), (vI i0, false), (vI n, false)] [some (vR z 49), some (vI s), some (vI lane), some (vI i0), some (vI n), none, none] RX11 (by decide) rfl ⟨cR z 49, rfl, rfl, rfl, rfl, trivial⟩ (Nat.le_of_ble_eq_true rfl) rfl (fun x ed el hx hini => ?_)
  refine V_iload_1 hx dX11_found_0 ?_
  refine V_s1P hx el ed (c_X11_isSheet (by omega)) myX11_isSheet mlX11_140 dX11_found_1 (by decide) (by omega) rfl (by first | exact Nat.le_of_ble_eq_true rfl | simp [vI, vL, vR_cat, Value.category]) ?_
  refine V_ifB_eq (tgt := 29) hx dX11_found_4 (by decide) (fun h4 => ?_) (fun h4 => ?_)
  · refine V_iconst hx dX11_found_29 ?_
    refine V_ireturn hx dX11_found_30 (by omega) (by omega) ?_
    exact ⟨_, rfl, rfl, hF, by unfold aFound; rw [cif_f (by omega)], fun _ _ _ => rfl⟩
  · refine V_iload_2 hx dX11_found_7 ?_
    refine V_s1P hx el ed (c_X11_isLane (by omega)) myX11_isLane mlX11_143 dX11_found_8 (by decide) (by omega) rfl (by first | exact Nat.le_of_ble_eq_true rfl | simp [vI, vL, vR_cat, Value.category]) ?_
    refine V_ifB_eq (tgt := 29) hx dX11_found_11 (by decide) (fun h11 => ?_) (fun h11 => ?_)
    · refine V_iconst hx dX11_found_29 ?_
      refine V_ireturn hx dX11_found_30 (by omega) (by omega) ?_
      exact ⟨_, rfl, rfl, hF, by unfold aFound; rw [cif_f (by omega)], fun _ _ _ => rfl⟩
    · refine V_iload_4 hx dX11_found_14 ?_
      refine V_i2l hx dX11_found_16 (by omega) ?_
      refine V_ldc2 (v := 2) hx kcX11_138 dX11_found_17 (by decide) ?_
      refine V_ldc2 (v := 8) hx kcX11_155 dX11_found_20 (by decide) ?_
      refine V_s3P hx el ed (c_X11_in (by omega) (by omega) (by omega)) myX11_in mlX11_70 dX11_found_23 (by decide) (by omega) rfl (by first | exact Nat.le_of_ble_eq_true rfl | simp [vI, vL, vR_cat, Value.category]) ?_
      refine V_ifB_ne (tgt := 31) hx dX11_found_26 (by decide) (fun h26 => ?_) (fun h26 => ?_)
      · refine V_aload_0 hx dX11_found_31 ?_
        refine V_iload_1 hx dX11_found_32 ?_
        refine V_iload_2 hx dX11_found_33 ?_
        refine V_iload_3 hx dX11_found_34 ?_
        refine V_iload_4 hx dX11_found_35 ?_
        refine V_v4Q hx el ed (c_X11_wrong hN hF (by omega) (by omega) (by omega) (by omega)) myX11_wrong mlX11_146 dX11_found_37 ⟨_, rfl, rfl⟩ (k49 hN) (by decide) (by omega) rfl (by first | exact Nat.le_of_ble_eq_true rfl | simp [vI, vL, vR_cat, Value.category]) (fun r37 => ?_)
        refine V_istore_5 hx (by first | exact nc_I | exact nc_R | exact nc_n) dX11_found_40 ?_
        refine V_iconst hx dX11_found_42 ?_
        refine V_istore_6 hx (by first | exact nc_I | exact nc_R | exact nc_n) dX11_found_43 ?_
        have hwr := wrF_1 (I := I) (s := s) (lane := lane) (i := i0) (n := n)
        have hq := hs0 s (by omega) (by omega)
        have NEXT : ∀ M : Mm, Fx M → (∀ a k : Int, a ≠ 61 → M a k = I a k) → okWs I s i0 n → (∀ k : Int, 0 ≤ k → k < n → M 61 k = I 60 (24 * s + (i0 + k))) → wrF I s lane i0 n = 1 → V x z (pI (fun r N' I' => N' = N ∧ Fx I' ∧ r = aFound I s lane i0 n ∧ ∀ a q : Int, a ≠ 61 → I' a q = I a q)) N M 0 0 111 [some (vR z 49), some (vI s), some (vI lane), some (vI i0), some (vI n), some (vI 1), some (vI n)] [] := by
          intro M hF hM hok hG hw1
          have hM55 : M 55 = I 55 := funext fun k => hM 55 k (by decide)
          have hM49 : M 49 6 = I 49 6 := hM 49 6 (by decide)
          have hg1 : ∀ q : Int, 0 ≤ q → q < n → 0 ≤ M 61 q ∧ M 61 q < M 49 6 := fun q q0 q1 => by rw [hG q q0 q1, hM49]; have := hok q q0 q1; omega
          have hW1 : ∀ w c : Int, 0 ≤ w → w < M 49 6 → 0 ≤ c → c ≤ 3 → 0 ≤ M 55 (13 * w + c) ∧ M 55 (13 * w + c) ≤ 200000 := by rw [hM55, hM49]; exact hW
          have hI : ∀ q : Int, 0 ≤ q → q < n → M 61 q = itm I s i0 q := hG
          have hmk : ∀ o t : Int, mks M (M 61) n o t ↔ mks I (itm I s i0) n o t := fun o t => mks_cong hM55 hI
          refine V_aload_0 hx dX11_found_111 ?_
          refine V_iload_4 hx dX11_found_112 ?_
          refine V_v1P hx el ed (c_X11_isTwice hN hF (by omega)) myX11_isTwice mlX11_240 dX11_found_114 ⟨_, rfl, rfl⟩ (k49 hN) (by decide) (by omega) rfl (by first | exact Nat.le_of_ble_eq_true rfl | simp [vI, vL, vR_cat, Value.category]) ?_
          refine V_ifB_eq (tgt := 123) hx dX11_found_117 (by decide) (fun h117 => ?_) (fun h117 => ?_)
          · refine V_iconst hx dX11_found_123 ?_
            refine V_istore_6 hx (by first | exact nc_I | exact nc_R | exact nc_n) dX11_found_124 ?_
            have hnd : ¬ dup (itm I s i0) n := fun q => by have := (dup_cong hI).mpr q; contradiction
            refine loop_inv (α := Unit) 0 16 (by decide) (fun i _ => ∀ j : Int, 0 ≤ j → j < i → ¬ mks I (itm I s i0) n (tm j) 0) (fun i _ => V x z _ N M 0 0 126 [some (vR z 49), some (vI s), some (vI lane), some (vI i0), some (vI n), some (vI 1), some (vI i)] []) ?_ ?_ () (fun j a b => by omega)
            · rintro _ hJ
              refine V_iload_6 hx dX11_found_126 ?_
              refine V_bipush hx dX11_found_128 (by decide) ?_
              refine V_icmp_ge (tgt := 160) hx dX11_found_130 (by decide) (by omega) (by omega) (fun h130 => ?_) (fun h130 => ?_)
              · refine V_iconst hx dX11_found_160 ?_
                refine V_istore_6 hx (by first | exact nc_I | exact nc_R | exact nc_n) dX11_found_161 ?_
                have hf1 : fstA (fun a => mks I (itm I s i0) n (tm a) 0) 16 = -1 := fstA_none (p := (fun a => mks I (itm I s i0) n (tm a) 0)) (n := 16) hJ
                refine loop_inv (α := Unit) 0 256 (by decide) (fun i _ => ∀ j : Int, 0 ≤ j → j < i → ¬ mks I (itm I s i0) n (tm (j / 16)) (tm (j % 16))) (fun i _ => V x z _ N M 0 0 163 [some (vR z 49), some (vI s), some (vI lane), some (vI i0), some (vI n), some (vI 1), some (vI i)] []) ?_ ?_ () (fun j a b => by omega)
                · rintro _ hJ2
                  refine V_iload_6 hx dX11_found_163 ?_
                  refine V_sipush hx dX11_found_165 (by decide) ?_
                  refine V_icmp_ge (tgt := 223) hx dX11_found_168 (by decide) (by omega) (by omega) (fun h168 => ?_) (fun h168 => ?_)
                  · refine V_bipush hx dX11_found_223 (by decide) ?_
                    refine V_ireturn hx dX11_found_225 (by omega) (by omega) ?_
                    have hf2 : fstA (fun a => mks I (itm I s i0) n (tm (a / 16)) (tm (a % 16))) 256 = -1 := fstA_none (p := (fun a => mks I (itm I s i0) n (tm (a / 16)) (tm (a % 16)))) (n := 256) hJ2
                    exact ⟨_, rfl, rfl, hF, by unfold aFound fndF; rw [cif_t (by omega), cif_t hw1, cif_t ⟨hok, hnd⟩, cif_f (by rw [hf1]; omega), cif_f (by rw [hf2]; omega)], hM⟩
                  · exfalso; omega
                · rintro i _ hi0 hi1 hJ2 ih
                  refine V_iload_6 hx dX11_found_163 ?_
                  refine V_sipush hx dX11_found_165 (by decide) ?_
                  refine V_icmp_ge (tgt := 223) hx dX11_found_168 (by decide) (by omega) (by omega) (fun h168 => ?_) (fun h168 => ?_)
                  · exfalso; omega
                  · refine V_aload_0 hx dX11_found_171 ?_
                    refine V_iload_4 hx dX11_found_172 ?_
                    refine V_iload_6 hx dX11_found_174 ?_
                    refine V_bipush hx dX11_found_176 (by decide) ?_
                    refine V_idiv hx dX11_found_178 (by omega) (by omega) ?_
                    refine V_s1Q hx el ed (c_X11_termOf (by omega)) myX11_termOf mlX11_243 dX11_found_179 (by decide) (by omega) rfl (by first | exact Nat.le_of_ble_eq_true rfl | simp [vI, vL, vR_cat, Value.category]) (fun r179 => ?_)
                    refine V_iload_6 hx dX11_found_182 ?_
                    refine V_bipush hx dX11_found_184 (by decide) ?_
                    refine V_irem hx dX11_found_186 (by omega) (by omega) ?_
                    refine V_s1Q hx el ed (c_X11_termOf (by omega)) myX11_termOf mlX11_243 dX11_found_187 (by decide) (by omega) rfl (by first | exact Nat.le_of_ble_eq_true rfl | simp [vI, vL, vR_cat, Value.category]) (fun r187 => ?_)
                    refine V_v3P hx el ed (c_X11_makes hN hF (by omega) (tm_ok (by omega) (by omega)) (Or.inr (tm_ok (by omega) (by omega))) (by omega) hg1 hW1 (by omega)) myX11_makes mlX11_246 dX11_found_190 ⟨_, rfl, rfl⟩ (k49 hN) (by decide) (by omega) rfl (by first | exact Nat.le_of_ble_eq_true rfl | simp [vI, vL, vR_cat, Value.category]) ?_
                    refine V_ifB_eq (tgt := 217) hx dX11_found_193 (by decide) (fun h193 => ?_) (fun h193 => ?_)
                    · refine V_iinc_6 hx (by first | exact nc_I | exact nc_R | exact nc_n) dX11_found_217 ?_
                      refine V_goto (tgt := 163) hx dX11_found_220 (by decide) ?_
                      exact ih () (fun j j0 j1 => by by_cases hj : j = i; (subst hj; exact fun q => absurd ((hmk _ _).mpr q) (by assumption)); exact hJ2 j j0 (by omega))
                    · refine V_bipush hx dX11_found_196 (by decide) ?_
                      refine V_iload_6 hx dX11_found_198 ?_
                      refine V_bipush hx dX11_found_200 (by decide) ?_
                      refine V_idiv hx dX11_found_202 (by omega) (by omega) ?_
                      refine V_s1Q hx el ed (c_X11_termOf (by omega)) myX11_termOf mlX11_243 dX11_found_203 (by decide) (by omega) rfl (by first | exact Nat.le_of_ble_eq_true rfl | simp [vI, vL, vR_cat, Value.category]) (fun r203 => ?_)
                      refine V_imul hx dX11_found_206 ?_
                      refine V_iload_6 hx dX11_found_207 ?_
                      refine V_bipush hx dX11_found_209 (by decide) ?_
                      refine V_irem hx dX11_found_211 (by omega) (by omega) ?_
                      refine V_s1Q hx el ed (c_X11_termOf (by omega)) myX11_termOf mlX11_243 dX11_found_212 (by decide) (by omega) rfl (by first | exact Nat.le_of_ble_eq_true rfl | simp [vI, vL, vR_cat, Value.category]) (fun r212 => ?_)
                      refine V_iadd hx dX11_found_215 ?_
                      refine V_ireturn hx dX11_found_216 (by omega) (by omega) ?_
                      have hf2 : fstA (fun a => mks I (itm I s i0) n (tm (a / 16)) (tm (a % 16))) 256 = i := fstA_some (p := (fun a => mks I (itm I s i0) n (tm (a / 16)) (tm (a % 16)))) (n := 256) hi0 ((hmk _ _).mp (by assumption)) hJ2 (by omega)
                      exact ⟨_, rfl, rfl, hF, by unfold aFound fndF; rw [cif_t (by omega), cif_t hw1, cif_t ⟨hok, hnd⟩, cif_f (by rw [hf1]; omega), cif_t (by rw [hf2]; omega), hf2], hM⟩
              · exfalso; omega
            · rintro i _ hi0 hi1 hJ ih
              have htm := tm_ok hi0 hi1
              refine V_iload_6 hx dX11_found_126 ?_
              refine V_bipush hx dX11_found_128 (by decide) ?_
              refine V_icmp_ge (tgt := 160) hx dX11_found_130 (by decide) (by omega) (by omega) (fun h130 => ?_) (fun h130 => ?_)
              · exfalso; omega
              · refine V_aload_0 hx dX11_found_133 ?_
                refine V_iload_4 hx dX11_found_134 ?_
                refine V_iload_6 hx dX11_found_136 ?_
                refine V_s1Q hx el ed (c_X11_termOf (by omega)) myX11_termOf mlX11_243 dX11_found_138 (by decide) (by omega) rfl (by first | exact Nat.le_of_ble_eq_true rfl | simp [vI, vL, vR_cat, Value.category]) (fun r138 => ?_)
                refine V_iconst hx dX11_found_141 ?_
                refine V_v3P hx el ed (c_X11_makes hN hF (by omega) (tm_ok hi0 hi1) (Or.inl rfl) (by omega) hg1 hW1 (by omega)) myX11_makes mlX11_246 dX11_found_142 ⟨_, rfl, rfl⟩ (k49 hN) (by decide) (by omega) rfl (by first | exact Nat.le_of_ble_eq_true rfl | simp [vI, vL, vR_cat, Value.category]) ?_
                refine V_ifB_eq (tgt := 154) hx dX11_found_145 (by decide) (fun h145 => ?_) (fun h145 => ?_)
                · refine V_iinc_6 hx (by first | exact nc_I | exact nc_R | exact nc_n) dX11_found_154 ?_
                  refine V_goto (tgt := 126) hx dX11_found_157 (by decide) ?_
                  exact ih () (fun j j0 j1 => by by_cases hj : j = i; (subst hj; exact fun q => absurd ((hmk _ _).mpr q) (by assumption)); exact hJ j j0 (by omega))
                · refine V_iload_6 hx dX11_found_148 ?_
                  refine V_s1Q hx el ed (c_X11_termOf (by omega)) myX11_termOf mlX11_243 dX11_found_150 (by decide) (by omega) rfl (by first | exact Nat.le_of_ble_eq_true rfl | simp [vI, vL, vR_cat, Value.category]) (fun r150 => ?_)
                  refine V_ireturn hx dX11_found_153 (by omega) (by omega) ?_
                  have hf : fstA (fun a => mks I (itm I s i0) n (tm a) 0) 16 = i := fstA_some (p := (fun a => mks I (itm I s i0) n (tm a) 0)) (n := 16) hi0 ((hmk _ _).mp (by assumption)) hJ (by omega)
                  exact ⟨_, rfl, rfl, hF, by unfold aFound fndF; rw [cif_t (by omega), cif_t hw1, cif_t ⟨hok, hnd⟩, cif_t (by rw [hf]; omega), hf], hM⟩
          · refine V_bipush hx dX11_found_120 (by decide) ?_
            refine V_ireturn hx dX11_found_122 (by omega) (by omega) ?_
            exact ⟨_, rfl, rfl, hF, by unfold aFound; rw [cif_t (by omega), cif_t hw1, cif_f (fun q => q.2 ((dup_cong hI).mp (by assumption)))], hM⟩
        by_cases hw1 : wrF I s lane i0 n = 1
        · rw [hw1]
          refine loop_inv (α := Mm × Int) 0 n (by omega) (fun i q => Fx q.1 ∧ (∀ a k : Int, a ≠ 61 → q.1 a k = I a k) ∧ ((q.2 = 1 ∧ ∀ k : Int, 0 ≤ k → k < i → (0 ≤ I 60 (24 * s + (i0 + k)) ∧ I 60 (24 * s + (i0 + k)) ≤ I 49 6 - 1) ∧ q.1 61 k = I 60 (24 * s + (i0 + k))) ∨ (q.2 = -2 ∧ ¬ okWs I s i0 n))) (fun i q => V x z _ N q.1 0 0 45 [some (vR z 49), some (vI s), some (vI lane), some (vI i0), some (vI n), some (vI q.2), some (vI i)] []) ?_ ?_ (I, 1) ⟨hF, fun _ _ _ => rfl, Or.inl ⟨rfl, fun k a b => by omega⟩⟩
          · rintro ⟨M, wr⟩ ⟨hF, hM, hJ⟩
            dsimp only at hF hM hJ ⊢
            have hwb : wr = 1 ∨ wr = -2 := by rcases hJ with h | h <;> omega
            refine V_iload_6 hx dX11_found_45 ?_
            refine V_iload_4 hx dX11_found_47 ?_
            refine V_icmp_ge (tgt := 102) hx dX11_found_49 (by decide) (by omega) (by omega) (fun h49 => ?_) (fun h49 => ?_)
            · rcases hJ with ⟨h1, h2⟩ | ⟨h1, h2⟩
              · subst h1
                have hok : okWs I s i0 n := fun k k0 k1 => (h2 k k0 k1).1
                refine V_iload_5 hx dX11_found_102 ?_
                refine V_iconst hx dX11_found_104 ?_
                refine V_icmp_eq (tgt := 111) hx dX11_found_105 (by decide) (by omega) (by omega) (fun _ => ?_) (fun h => absurd h (by decide))
                exact NEXT M hF hM hok (fun k k0 k1 => (h2 k k0 k1).2) hw1
              · subst h1
                refine V_iload_5 hx dX11_found_102 ?_
                refine V_iconst hx dX11_found_104 ?_
                refine V_icmp_eq (tgt := 111) hx dX11_found_105 (by decide) (by omega) (by omega) (fun h => absurd h (by decide)) (fun _ => ?_)
                refine V_iload_5 hx dX11_found_108 ?_
                refine V_ireturn hx dX11_found_110 (by omega) (by omega) ?_
                exact ⟨_, rfl, rfl, hF, by unfold aFound; rw [cif_t (by omega), cif_t hw1, cif_f (fun q => h2 q.1)], hM⟩
            · exfalso; omega
          · rintro i ⟨M, wr⟩ hi0 hi1 ⟨hF, hM, hJ⟩ ih
            dsimp only at hF hM hJ ⊢
            have hwb : wr = 1 ∨ wr = -2 := by rcases hJ with h | h <;> omega
            have hM60 : ∀ k : Int, M 60 k = I 60 k := fun k => hM 60 k (by decide)
            have hM49 : M 49 6 = I 49 6 := hM 49 6 (by decide)
            have hM55 : ∀ k : Int, M 55 k = I 55 k := fun k => hM 55 k (by decide)
            refine V_iload_6 hx dX11_found_45 ?_
            refine V_iload_4 hx dX11_found_47 ?_
            refine V_icmp_ge (tgt := 102) hx dX11_found_49 (by decide) (by omega) (by omega) (fun h49 => ?_) (fun h49 => ?_)
            · rcases hJ with ⟨h1, h2⟩ | ⟨h1, h2⟩
              · exfalso; omega
              · subst h1
                refine V_iload_5 hx dX11_found_102 ?_
                refine V_iconst hx dX11_found_104 ?_
                refine V_icmp_eq (tgt := 111) hx dX11_found_105 (by decide) (by omega) (by omega) (fun h => absurd h (by decide)) (fun _ => ?_)
                refine V_iload_5 hx dX11_found_108 ?_
                refine V_ireturn hx dX11_found_110 (by omega) (by omega) ?_
                exact ⟨_, rfl, rfl, hF, by unfold aFound; rw [cif_t (by omega), cif_t hw1, cif_f (fun q => h2 q.1)], hM⟩
            · refine V_iload_5 hx dX11_found_52 ?_
              refine V_iconst hx dX11_found_54 ?_
              refine V_icmp_ne (tgt := 102) hx dX11_found_55 (by decide) (by omega) (by omega) (fun h55 => ?_) (fun h55 => ?_)
              · rcases hJ with ⟨h1, h2⟩ | ⟨h1, h2⟩
                · exfalso; omega
                · subst h1
                  refine V_iload_5 hx dX11_found_102 ?_
                  refine V_iconst hx dX11_found_104 ?_
                  refine V_icmp_eq (tgt := 111) hx dX11_found_105 (by decide) (by omega) (by omega) (fun h => absurd h (by decide)) (fun _ => ?_)
                  refine V_iload_5 hx dX11_found_108 ?_
                  refine V_ireturn hx dX11_found_110 (by omega) (by omega) ?_
                  exact ⟨_, rfl, rfl, hF, by unfold aFound; rw [cif_t (by omega), cif_t hw1, cif_f (fun q => h2 q.1)], hM⟩
              · have hJ1 := hJ.resolve_right (fun q => by omega)
                refine V_aload_0 hx dX11_found_58 ?_
                refine V_getRe hx flX11_43 dX11_found_59 rfl (k49 hN) (hF.1 49 18 61 rfl) ?_
                refine V_iload_6 hx dX11_found_62 ?_
                refine V_aload_0 hx dX11_found_64 ?_
                refine V_iload_1 hx dX11_found_65 ?_
                refine V_iload_3 hx dX11_found_66 ?_
                refine V_iload_6 hx dX11_found_67 ?_
                refine V_iadd hx dX11_found_69 ?_
                refine V_v2Q hx el ed (c_X11_itemOf hN hF (by omega)) myX11_itemOf mlX11_150 dX11_found_70 ⟨_, rfl, rfl⟩ (k49 hN) (by decide) (by omega) rfl (by first | exact Nat.le_of_ble_eq_true rfl | simp [vI, vL, vR_cat, Value.category]) (fun r70 => ?_)
                refine V_iastorex hx hF dX11_found_73 (k61 hN) (by decide) (by omega) (fx_none rfl _) (by omega) (Or.inl (by decide)) (fun hF => ?_)
                refine V_aload_0 hx dX11_found_74 ?_
                refine V_aload_0 hx dX11_found_75 ?_
                refine V_getRe hx flX11_43 dX11_found_76 rfl (k49 hN) (hF.1 49 18 61 rfl) ?_
                refine V_iload_6 hx dX11_found_79 ?_
                refine V_ialoadx hx hF dX11_found_81 (k61 hN) (by decide) (by omega) (fun r81 => ?_)
                (try simp only [up_s, up_c, up_row, up_k, ne_eq, Int.reduceEq, not_false_eq_true] at r81 ⊢)
                (try rw [up_s])
                refine V_v1P hx el ed (c_X11_isWord hN hF (by omega) (by rw [up_c (by decide), hM49]; omega)) myX11_isWord mlX11_189 dX11_found_82 ⟨_, rfl, rfl⟩ (k49 hN) (by decide) (by omega) rfl (by first | exact Nat.le_of_ble_eq_true rfl | simp [vI, vL, vR_cat, Value.category]) ?_
                refine V_ifB_eq (tgt := 92) hx dX11_found_85 (by decide) (fun h85 => ?_) (fun h85 => ?_)
                · refine V_bipush hx dX11_found_92 (by decide) ?_
                  refine V_istore_5 hx (by first | exact nc_I | exact nc_R | exact nc_n) dX11_found_94 ?_
                  refine V_iinc_6 hx (by first | exact nc_I | exact nc_R | exact nc_n) dX11_found_96 ?_
                  refine V_goto (tgt := 45) hx dX11_found_99 (by decide) ?_
                  have hM2 : ∀ a k : Int, a ≠ 61 → up M 61 i (M 60 (24 * s + (i0 + i))) a k = I a k := fun a k ha => by rw [up_c ha]; exact hM a k ha
                  have hMi := hM60 (24 * s + (i0 + i))
                  have hU49 := hM2 49 6 (by decide)
                  have hU55 := hM2 55 (13 * M 60 (24 * s + (i0 + i)) + 9) (by decide)
                  by_cases hgood : 0 ≤ I 60 (24 * s + (i0 + i)) ∧ I 60 (24 * s + (i0 + i)) ≤ I 49 6 - 1
                  · have hK : ∀ k : Int, 0 ≤ k → k < i + 1 → (0 ≤ I 60 (24 * s + (i0 + k)) ∧ I 60 (24 * s + (i0 + k)) ≤ I 49 6 - 1) ∧ up M 61 i (M 60 (24 * s + (i0 + i))) 61 k = I 60 (24 * s + (i0 + k)) := by
                      intro k k0 k1
                      by_cases hk : k = i
                      · subst hk; rw [up_s]; exact ⟨hgood, hMi⟩
                      · rw [up_k hk]; exact hJ1.2 k k0 (by omega)
                    first | exact ih (up M 61 i (M 60 (24 * s + (i0 + i))), 1) ⟨hF, hM2, Or.inl ⟨rfl, hK⟩⟩ | (exfalso; omega)
                  · first | exact ih (up M 61 i (M 60 (24 * s + (i0 + i))), -2) ⟨hF, hM2, Or.inr ⟨rfl, fun q => hgood (q i hi0 hi1)⟩⟩ | (exfalso; omega)
                · refine V_iconst hx dX11_found_88 ?_
                  refine V_goto (tgt := 94) hx dX11_found_89 (by decide) ?_
                  refine V_istore_5 hx (by first | exact nc_I | exact nc_R | exact nc_n) dX11_found_94 ?_
                  refine V_iinc_6 hx (by first | exact nc_I | exact nc_R | exact nc_n) dX11_found_96 ?_
                  refine V_goto (tgt := 45) hx dX11_found_99 (by decide) ?_
                  have hM2 : ∀ a k : Int, a ≠ 61 → up M 61 i (M 60 (24 * s + (i0 + i))) a k = I a k := fun a k ha => by rw [up_c ha]; exact hM a k ha
                  have hMi := hM60 (24 * s + (i0 + i))
                  have hU49 := hM2 49 6 (by decide)
                  have hU55 := hM2 55 (13 * M 60 (24 * s + (i0 + i)) + 9) (by decide)
                  by_cases hgood : 0 ≤ I 60 (24 * s + (i0 + i)) ∧ I 60 (24 * s + (i0 + i)) ≤ I 49 6 - 1
                  · have hK : ∀ k : Int, 0 ≤ k → k < i + 1 → (0 ≤ I 60 (24 * s + (i0 + k)) ∧ I 60 (24 * s + (i0 + k)) ≤ I 49 6 - 1) ∧ up M 61 i (M 60 (24 * s + (i0 + i))) 61 k = I 60 (24 * s + (i0 + k)) := by
                      intro k k0 k1
                      by_cases hk : k = i
                      · subst hk; rw [up_s]; exact ⟨hgood, hMi⟩
                      · rw [up_k hk]; exact hJ1.2 k k0 (by omega)
                    first | exact ih (up M 61 i (M 60 (24 * s + (i0 + i))), 1) ⟨hF, hM2, Or.inl ⟨rfl, hK⟩⟩ | (exfalso; omega)
                  · first | exact ih (up M 61 i (M 60 (24 * s + (i0 + i))), -2) ⟨hF, hM2, Or.inr ⟨rfl, fun q => hgood (q i hi0 hi1)⟩⟩ | (exfalso; omega)
        · refine V_iload_6 hx dX11_found_45 ?_
          refine V_iload_4 hx dX11_found_47 ?_
          refine V_icmp_ge (tgt := 102) hx dX11_found_49 (by decide) (by omega) (by omega) (fun h49 => ?_) (fun h49 => ?_)
          · refine V_iload_5 hx dX11_found_102 ?_
            refine V_iconst hx dX11_found_104 ?_
            refine V_icmp_eq (tgt := 111) hx dX11_found_105 (by decide) (by omega) (by omega) (fun h105 => ?_) (fun h105 => ?_)
            · exfalso; omega
            · refine V_iload_5 hx dX11_found_108 ?_
              refine V_ireturn hx dX11_found_110 (by omega) (by omega) ?_
              exact ⟨_, rfl, rfl, hF, by unfold aFound; rw [cif_t (by omega), cif_f hw1], fun _ _ _ => rfl⟩
          · refine V_iload_5 hx dX11_found_52 ?_
            refine V_iconst hx dX11_found_54 ?_
            refine V_icmp_ne (tgt := 102) hx dX11_found_55 (by decide) (by omega) (by omega) (fun h55 => ?_) (fun h55 => ?_)
            · refine V_iload_5 hx dX11_found_102 ?_
              refine V_iconst hx dX11_found_104 ?_
              refine V_icmp_eq (tgt := 111) hx dX11_found_105 (by decide) (by omega) (by omega) (fun h105 => ?_) (fun h105 => ?_)
              · exfalso; omega
              · refine V_iload_5 hx dX11_found_108 ?_
                refine V_ireturn hx dX11_found_110 (by omega) (by omega) ?_
                exact ⟨_, rfl, rfl, hF, by unfold aFound; rw [cif_t (by omega), cif_f hw1], fun _ _ _ => rfl⟩
            · exfalso; omega
      · refine V_iconst hx dX11_found_29 ?_
        refine V_ireturn hx dX11_found_30 (by omega) (by omega) ?_
        exact ⟨_, rfl, rfl, hF, by unfold aFound; rw [cif_f (by omega)], fun _ _ _ => rfl⟩

