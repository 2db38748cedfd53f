set_option maxRecDepth 8000 in
theorem c_X11_goesOn {l : Launch} {d : Dd} {z : Nat} {N : Int} {I : Mm} (hN : 67 ≤ N) (hF : Fx I) (hT : TickOK I) : Cn l d z yX11_goesOn cX11_goesOn 2 none 4 89 0 0 [vR z 49] N I (pN (fun N' I' => N' = N ∧ I' = gTick I ∧ Fx I')) := by
  refine Cn.ofA [(vR z 49, false)] [some (vR z 49), none] RX11 (by decide) rfl ⟨cR z 49, trivial⟩ (Nat.le_of_ble_eq_true rfl) rfl (fun x ed el hx hini => ?_)
  obtain ⟨tm, tn, tp, tg, tw, ts⟩ := hT
  have TAIL : ∀ J : Mm, Fx J → gTick I = gTail J → J 49 6 = I 49 6 → J 49 7 = I 49 7 → (J 49 9 = -4 ∨ (0 ≤ J 49 9 ∧ J 49 9 < I 49 6)) → (∀ w : Int, 0 ≤ w → w < I 49 6 → (1 ≤ J 55 (13 * w + 1) ∧ J 55 (13 * w + 1) ≤ 99) ∧ (0 ≤ J 55 (13 * w + 6) ∧ J 55 (13 * w + 6) ≤ 7) ∧ (-4 ≤ J 55 (13 * w + 10) ∧ J 55 (13 * w + 10) ≤ 100000)) → (∀ s : Int, 0 ≤ s → s ≤ 7 → 0 ≤ J 54 s ∧ J 54 s ≤ 1000000) → V x z (pN (fun N' I' => N' = N ∧ I' = gTick I ∧ Fx I')) N J 0 0 96 [some (vR z 49), none] [] := by
    intro J hF hg j6 j7 j9 jw js
    have LEAVE : ∀ K : Mm, Fx K → K = up J 49 7 (J 49 7 + 1) → K 49 7 = J 49 7 + 1 → K 49 9 = J 49 9 → K 55 = J 55 → K 54 = J 54 → V x z (pN (fun N' I' => N' = N ∧ I' = gTick I ∧ Fx I')) N K 0 0 106 [some (vR z 49), none] [] := by
      intro K hF eK kk7 kk9 kk55 kk54
      rw [← kk55] at jw
      rw [← kk54] at js
      have hjp := fun h : K 49 9 ≠ -4 => jw (K 49 9) (by omega) (by omega)
      have hF0 := hF
      refine V_aload_0 hx dX11_goesOn_106 ?_
      refine V_getIx 9 hx hF flX11_61 dX11_goesOn_107 rfl rfl (k49 hN) (fun r107 => ?_)
      refine V_bipush hx dX11_goesOn_110 (by decide) ?_
      refine V_icmp_eq (tgt := 213) hx dX11_goesOn_112 (by decide) (by omega) (by omega) (fun h112 => ?_) (fun h112 => ?_)
      · refine V_return hx dX11_goesOn_213 (by omega) (by omega) ?_
        refine ⟨rfl, rfl, ?_, hF⟩
        rw [hg]
        unfold gTail
        rw [← eK]
        first | rw [cif_f (by omega)] | (rw [cif_t ⟨by omega, by omega⟩]; rfl)
      · have hjp2 := hjp (by omega)
        have hjs := js (K 55 (13 * K 49 9 + 6)) (by omega) (by omega)
        refine V_aload_0 hx dX11_goesOn_115 ?_
        refine V_aload_0 hx dX11_goesOn_116 ?_
        refine V_getIx 9 hx hF flX11_61 dX11_goesOn_117 rfl rfl (k49 hN) (fun r117 => ?_)
        refine V_bipush hx dX11_goesOn_120 (by decide) ?_
        refine V_v2Q hx el ed (c_X11_of hN hF (by omega)) myX11_of mlX11_99 dX11_goesOn_122 ⟨_, rfl, rfl⟩ (k49 hN) (by decide) (by omega) rfl (by first | exact Nat.le_of_ble_eq_true rfl | simp [vI, vL, vR_cat, Value.category]) (fun r122 => ?_)
        refine V_aload_0 hx dX11_goesOn_125 ?_
        refine V_aload_0 hx dX11_goesOn_126 ?_
        refine V_getIx 9 hx hF flX11_61 dX11_goesOn_127 rfl rfl (k49 hN) (fun r127 => ?_)
        refine V_iconst hx dX11_goesOn_130 ?_
        refine V_v2Q hx el ed (c_X11_of hN hF (by omega)) myX11_of mlX11_99 dX11_goesOn_131 ⟨_, rfl, rfl⟩ (k49 hN) (by decide) (by omega) rfl (by first | exact Nat.le_of_ble_eq_true rfl | simp [vI, vL, vR_cat, Value.category]) (fun r131 => ?_)
        refine V_iadd hx dX11_goesOn_134 ?_
        refine V_aload_0 hx dX11_goesOn_135 ?_
        refine V_getIx 7 hx hF flX11_111 dX11_goesOn_136 rfl rfl (k49 hN) (fun r136 => ?_)
        refine V_icmp_ne (tgt := 213) hx dX11_goesOn_139 (by decide) (by omega) (by omega) (fun h139 => ?_) (fun h139 => ?_)
        · refine V_return hx dX11_goesOn_213 (by omega) (by omega) ?_
          refine ⟨rfl, rfl, ?_, hF⟩
          rw [hg]
          unfold gTail
          rw [← eK]
          first | rw [cif_f (by omega)] | (rw [cif_t ⟨by omega, by omega⟩]; rfl)
        · refine V_aload_0 hx dX11_goesOn_142 ?_
          refine V_aload_0 hx dX11_goesOn_143 ?_
          refine V_getIx 9 hx hF flX11_61 dX11_goesOn_144 rfl rfl (k49 hN) (fun r144 => ?_)
          refine V_bipush hx dX11_goesOn_147 (by decide) ?_
          refine V_iconst hx dX11_goesOn_149 ?_
          refine V_v3N hx el ed (c_X11_puts hN hF (by omega) (by omega)) myX11_puts mlX11_114 dX11_goesOn_150 ⟨_, rfl, rfl⟩ (k49 hN) (by decide) (by omega) rfl (by first | exact Nat.le_of_ble_eq_true rfl | simp [vI, vL, vR_cat, Value.category]) (fun N1 I1 ⟨eN, eI, hF⟩ => ?_)
          subst eN; subst eI
          refine V_aload_0 hx dX11_goesOn_153 ?_
          refine V_aload_0 hx dX11_goesOn_154 ?_
          refine V_getIx 9 hx hF flX11_61 dX11_goesOn_155 rfl rfl (k49 hN) (fun r155 => ?_)
          (try simp only [up_s, up_c, up_row, up_k, ne_eq, Int.reduceEq, not_false_eq_true] at r155 ⊢)
          refine V_bipush hx dX11_goesOn_158 (by decide) ?_
          refine V_aload_0 hx dX11_goesOn_160 ?_
          refine V_getIx 7 hx hF flX11_111 dX11_goesOn_161 rfl rfl (k49 hN) (fun r161 => ?_)
          (try simp only [up_s, up_c, up_row, up_k, ne_eq, Int.reduceEq, not_false_eq_true] at r161 ⊢)
          refine V_v3N hx el ed (c_X11_puts hN hF (by omega) (by omega)) myX11_puts mlX11_114 dX11_goesOn_164 ⟨_, rfl, rfl⟩ (k49 hN) (by decide) (by omega) rfl (by first | exact Nat.le_of_ble_eq_true rfl | simp [vI, vL, vR_cat, Value.category]) (fun N1 I1 ⟨eN, eI, hF⟩ => ?_)
          subst eN; subst eI
          refine V_aload_0 hx dX11_goesOn_167 ?_
          refine V_aload_0 hx dX11_goesOn_168 ?_
          refine V_aload_0 hx dX11_goesOn_169 ?_
          refine V_getIx 9 hx hF flX11_61 dX11_goesOn_170 rfl rfl (k49 hN) (fun r170 => ?_)
          (try simp only [up_s, up_c, up_row, up_k, ne_eq, Int.reduceEq, not_false_eq_true] at r170 ⊢)
          refine V_iconst hx dX11_goesOn_173 ?_
          refine V_v2Q hx el ed (c_X11_of hN hF (by omega)) myX11_of mlX11_99 dX11_goesOn_174 ⟨_, rfl, rfl⟩ (k49 hN) (by decide) (by omega) rfl (by first | exact Nat.le_of_ble_eq_true rfl | simp [vI, vL, vR_cat, Value.category]) (fun r174 => ?_)
          (try simp only [up_s, up_c, up_row, up_k, ne_eq, Int.reduceEq, not_false_eq_true] at r174 ⊢)
          refine V_topI (K 55 (13 * K 49 9 + 5)) (by rw [up_k (by omega), up_k (by omega)]) ?_
          have hv5 := (hF0.2.1 55 (13 * K 49 9 + 5))
          refine V_putIx 8 hx hF flX11_108 dX11_goesOn_177 rfl rfl (fun r h => by cases h; rfl) (k49 hN) rfl (by omega) (Or.inl (by decide)) (fun hF => ?_)
          refine V_aload_0 hx dX11_goesOn_180 ?_
          refine V_getRe hx flX11_22 dX11_goesOn_181 rfl (k49 hN) (hF.1 49 4 54 rfl) ?_
          refine V_aload_0 hx dX11_goesOn_184 ?_
          refine V_aload_0 hx dX11_goesOn_185 ?_
          refine V_getIx 9 hx hF flX11_61 dX11_goesOn_186 rfl rfl (k49 hN) (fun r186 => ?_)
          (try simp only [up_s, up_c, up_row, up_k, ne_eq, Int.reduceEq, not_false_eq_true] at r186 ⊢)
          refine V_bipush hx dX11_goesOn_189 (by decide) ?_
          refine V_v2Q hx el ed (c_X11_of hN hF (by omega)) myX11_of mlX11_99 dX11_goesOn_191 ⟨_, rfl, rfl⟩ (k49 hN) (by decide) (by omega) rfl (by first | exact Nat.le_of_ble_eq_true rfl | simp [vI, vL, vR_cat, Value.category]) (fun r191 => ?_)
          (try simp only [up_s, up_c, up_row, up_k, ne_eq, Int.reduceEq, not_false_eq_true] at r191 ⊢)
          refine V_topI (K 55 (13 * K 49 9 + 6)) (by first | rfl | rw [up_c (by decide), up_k (by omega), up_k (by omega)] | rw [up_k (by omega), up_k (by omega)]) ?_
          refine V_dup2 hx dX11_goesOn_194 ?_
          refine V_ialoadx hx hF dX11_goesOn_195 (k54 hN) (by decide) (by omega) (fun r195 => ?_)
          (try simp only [up_s, up_c, up_row, up_k, ne_eq, Int.reduceEq, not_false_eq_true] at r195 ⊢)
          refine V_aload_0 hx dX11_goesOn_196 ?_
          refine V_aload_0 hx dX11_goesOn_197 ?_
          refine V_getIx 9 hx hF flX11_61 dX11_goesOn_198 rfl rfl (k49 hN) (fun r198 => ?_)
          (try simp only [up_s, up_c, up_row, up_k, ne_eq, Int.reduceEq, not_false_eq_true] at r198 ⊢)
          refine V_iconst hx dX11_goesOn_201 ?_
          refine V_v2Q hx el ed (c_X11_of hN hF (by omega)) myX11_of mlX11_99 dX11_goesOn_202 ⟨_, rfl, rfl⟩ (k49 hN) (by decide) (by omega) rfl (by first | exact Nat.le_of_ble_eq_true rfl | simp [vI, vL, vR_cat, Value.category]) (fun r202 => ?_)
          (try simp only [up_s, up_c, up_row, up_k, ne_eq, Int.reduceEq, not_false_eq_true] at r202 ⊢)
          refine V_topI (K 55 (13 * K 49 9 + 1)) (by first | rfl | rw [up_c (by decide), up_k (by omega), up_k (by omega)] | rw [up_k (by omega), up_k (by omega)]) ?_
          refine V_iadd hx dX11_goesOn_205 ?_
          refine V_iastorex hx hF dX11_goesOn_206 (k54 hN) (by decide) (by omega) (fx_none rfl _) (by omega) (Or.inl (by decide)) (fun hF => ?_)
          refine V_aload_0 hx dX11_goesOn_207 ?_
          refine V_bipush hx dX11_goesOn_208 (by decide) ?_
          refine V_putIx 9 hx hF flX11_61 dX11_goesOn_210 rfl rfl (fun r h => by cases h; rfl) (k49 hN) rfl (by omega) (Or.inl (by decide)) (fun hF => ?_)
          refine V_return hx dX11_goesOn_213 (by omega) (by omega) ?_
          refine ⟨rfl, rfl, ?_, hF⟩
          rw [hg]
          unfold gTail
          rw [← eK]
          first | rw [cif_f (by omega)] | (rw [cif_t ⟨by omega, by omega⟩]; rfl)
    refine V_aload_0 hx dX11_goesOn_96 ?_
    refine V_dupR hx dX11_goesOn_97 ?_
    refine V_getIx 7 hx hF flX11_111 dX11_goesOn_98 rfl rfl (k49 hN) (fun r98 => ?_)
    refine V_iconst hx dX11_goesOn_101 ?_
    refine V_iadd hx dX11_goesOn_102 ?_
    refine V_putIx 7 hx hF flX11_111 dX11_goesOn_103 rfl rfl (fun r h => by cases h; rfl) (k49 hN) rfl (by omega) (Or.inl (by decide)) (fun hF => ?_)
    refine LEAVE _ hF rfl (up_s _ _ _ _) (up_k (by decide)) (up_row (by decide)) (up_row (by decide))
  refine V_aload_0 hx dX11_goesOn_0 ?_
  refine V_getIx 9 hx hF flX11_61 dX11_goesOn_1 rfl rfl (k49 hN) (fun r1 => ?_)
  refine V_bipush hx dX11_goesOn_4 (by decide) ?_
  refine V_icmp_ne (tgt := 16) hx dX11_goesOn_6 (by decide) (by omega) (by omega) (fun h6 => ?_) (fun h6 => ?_)
  · refine V_bipush hx dX11_goesOn_16 (by decide) ?_
    refine V_istore_1 hx (by first | exact nc_I | exact nc_R | exact nc_n) dX11_goesOn_18 ?_
    refine V_iload_1 hx dX11_goesOn_19 ?_
    refine V_bipush hx dX11_goesOn_20 (by decide) ?_
    refine V_icmp_eq (tgt := 96) hx dX11_goesOn_22 (by decide) (by omega) (by omega) (fun _ => ?_) (fun h => absurd h (by decide))
    refine V_drop_1 ?_
    exact TAIL I hF (by unfold gTick; rw [cif_f (by omega)]) rfl rfl tp tw ts
  · refine V_aload_0 hx dX11_goesOn_9 ?_
    refine V_v0Q hx el ed (c_X11_markNext hN hF (by omega)) myX11_markNext mlX11_205 dX11_goesOn_10 ⟨_, rfl, rfl⟩ (k49 hN) (by decide) (by omega) rfl (by first | exact Nat.le_of_ble_eq_true rfl | simp [vI, vL, vR_cat, Value.category]) (fun r10 => ?_)
    refine V_goto (tgt := 18) hx dX11_goesOn_13 (by decide) ?_
    refine V_istore_1 hx (by first | exact nc_I | exact nc_R | exact nc_n) dX11_goesOn_18 ?_
    refine V_iload_1 hx dX11_goesOn_19 ?_
    refine V_bipush hx dX11_goesOn_20 (by decide) ?_
    refine V_icmp_eq (tgt := 96) hx dX11_goesOn_22 (by decide) (by omega) (by omega) (fun h22 => ?_) (fun h22 => ?_)
    · refine V_drop_1 ?_
      first
        | exact TAIL I hF (by unfold gTick; rw [cif_f (by omega)]) rfl rfl tp tw ts
        | skip
      all_goals refine TAIL (gSend I (mkN I) (wOf I (I 55 (13 * mkN I + 8)))) hF (by unfold gTick; rw [cif_t ⟨by omega, by omega⟩]) (by unfold gSend; rw [up_k (by decide), up_c (by decide), up_c (by decide), up_c (by decide), up_c (by decide), up_k (by decide)]) (by unfold gSend; rw [up_k (by decide), up_c (by decide), up_c (by decide), up_c (by decide), up_c (by decide), up_k (by decide)]) (Or.inr (by unfold gSend; rw [up_k (by decide), up_c (by decide), up_c (by decide), up_c (by decide), up_c (by decide), up_s]; exact hwo.1)) (fun w w0 w1 => ?_) (fun s s0 s1 => by unfold gSend; rw [up_c (by decide), up_c (by decide), up_c (by decide), up_c (by decide), up_c (by decide), up_c (by decide)]; exact ts s s0 s1)
      all_goals have hw := tw w w0 w1
      all_goals (unfold gSend; rw [up_c (by decide), up_c (by decide), up_k (by omega), up_k (by omega), up_k (by omega), up_c (by decide), up_c (by decide), up_c (by decide), up_k (by omega), up_k (by omega), up_k (by omega), up_c (by decide), up_c (by decide), up_c (by decide)])
      all_goals refine ⟨hw.1, hw.2.1, ?_⟩
      all_goals (by_cases hq : w = wOf I (I 55 (13 * mkN I + 8)); (subst hq; rw [up_s]; omega); (rw [up_k (by omega), up_k (by omega), up_k (by omega), up_c (by decide)]; exact hw.2.2))
    · have hmk := mkN_v (I := I) (by omega)
      have hwo := wOf_v hmk.2.2
      have hgg := tg (by omega) (by omega)
      refine V_aload_0 hx dX11_goesOn_25 ?_
      refine V_aload_0 hx dX11_goesOn_26 ?_
      refine V_aload_0 hx dX11_goesOn_27 ?_
      refine V_iload_1 hx dX11_goesOn_28 ?_
      refine V_bipush hx dX11_goesOn_29 (by decide) ?_
      refine V_v2Q hx el ed (c_X11_of hN hF (by omega)) myX11_of mlX11_99 dX11_goesOn_31 ⟨_, rfl, rfl⟩ (k49 hN) (by decide) (by omega) rfl (by first | exact Nat.le_of_ble_eq_true rfl | simp [vI, vL, vR_cat, Value.category]) (fun r31 => ?_)
      refine V_v1Q hx el ed (c_X11_wordOf hN hF (by omega) (by omega)) myX11_wordOf mlX11_208 dX11_goesOn_34 ⟨_, rfl, rfl⟩ (k49 hN) (by decide) (by omega) rfl (by first | exact Nat.le_of_ble_eq_true rfl | simp [vI, vL, vR_cat, Value.category]) (fun r34 => ?_)
      refine V_putIx 9 hx hF flX11_61 dX11_goesOn_37 rfl rfl (fun r h => by cases h; rfl) (k49 hN) rfl (by omega) (Or.inl (by decide)) (fun hF => ?_)
      refine V_aload_0 hx dX11_goesOn_40 ?_
      refine V_iload_1 hx dX11_goesOn_41 ?_
      refine V_bipush hx dX11_goesOn_42 (by decide) ?_
      refine V_iconst hx dX11_goesOn_44 ?_
      refine V_v3N hx el ed (c_X11_puts hN hF (by omega) (by omega)) myX11_puts mlX11_114 dX11_goesOn_45 ⟨_, rfl, rfl⟩ (k49 hN) (by decide) (by omega) rfl (by first | exact Nat.le_of_ble_eq_true rfl | simp [vI, vL, vR_cat, Value.category]) (fun N1 I1 ⟨eN, eI, hF⟩ => ?_)
      subst eN; subst eI
      refine V_aload_0 hx dX11_goesOn_48 ?_
      refine V_aload_0 hx dX11_goesOn_49 ?_
      refine V_getIx 9 hx hF flX11_61 dX11_goesOn_50 rfl rfl (k49 hN) (fun r50 => ?_)
      (try simp only [up_s, up_c, up_row, up_k, ne_eq, Int.reduceEq, not_false_eq_true] at r50 ⊢)
      refine V_bipush hx dX11_goesOn_53 (by decide) ?_
      refine V_iconst hx dX11_goesOn_55 ?_
      refine V_v3N hx el ed (c_X11_puts hN hF (by omega) (by omega)) myX11_puts mlX11_114 dX11_goesOn_56 ⟨_, rfl, rfl⟩ (k49 hN) (by decide) (by omega) rfl (by first | exact Nat.le_of_ble_eq_true rfl | simp [vI, vL, vR_cat, Value.category]) (fun N1 I1 ⟨eN, eI, hF⟩ => ?_)
      subst eN; subst eI
      refine V_aload_0 hx dX11_goesOn_59 ?_
      refine V_aload_0 hx dX11_goesOn_60 ?_
      refine V_getIx 9 hx hF flX11_61 dX11_goesOn_61 rfl rfl (k49 hN) (fun r61 => ?_)
      (try simp only [up_s, up_c, up_row, up_k, ne_eq, Int.reduceEq, not_false_eq_true] at r61 ⊢)
      refine V_bipush hx dX11_goesOn_64 (by decide) ?_
      refine V_aload_0 hx dX11_goesOn_66 ?_
      refine V_getIx 7 hx hF flX11_111 dX11_goesOn_67 rfl rfl (k49 hN) (fun r67 => ?_)
      (try simp only [up_s, up_c, up_row, up_k, ne_eq, Int.reduceEq, not_false_eq_true] at r67 ⊢)
      refine V_v3N hx el ed (c_X11_puts hN hF (by omega) (by omega)) myX11_puts mlX11_114 dX11_goesOn_70 ⟨_, rfl, rfl⟩ (k49 hN) (by decide) (by omega) rfl (by first | exact Nat.le_of_ble_eq_true rfl | simp [vI, vL, vR_cat, Value.category]) (fun N1 I1 ⟨eN, eI, hF⟩ => ?_)
      subst eN; subst eI
      refine V_aload_0 hx dX11_goesOn_73 ?_
      refine V_getRe hx flX11_28 dX11_goesOn_74 rfl (k49 hN) (hF.1 49 10 56 rfl) ?_
      refine V_aload_0 hx dX11_goesOn_77 ?_
      refine V_getIx 11 hx hF flX11_211 dX11_goesOn_78 rfl rfl (k49 hN) (fun r78 => ?_)
      (try simp only [up_s, up_c, up_row, up_k, ne_eq, Int.reduceEq, not_false_eq_true] at r78 ⊢)
      refine V_aload_0 hx dX11_goesOn_81 ?_
      refine V_getIx 9 hx hF flX11_61 dX11_goesOn_82 rfl rfl (k49 hN) (fun r82 => ?_)
      (try simp only [up_s, up_c, up_row, up_k, ne_eq, Int.reduceEq, not_false_eq_true] at r82 ⊢)
      refine V_iastorex hx hF dX11_goesOn_85 (k56 hN) (by decide) (by omega) (fx_none rfl _) (by omega) (Or.inl (by decide)) (fun hF => ?_)
      refine V_aload_0 hx dX11_goesOn_86 ?_
      refine V_dupR hx dX11_goesOn_87 ?_
      refine V_getIx 11 hx hF flX11_211 dX11_goesOn_88 rfl rfl (k49 hN) (fun r88 => ?_)
      (try simp only [up_s, up_c, up_row, up_k, ne_eq, Int.reduceEq, not_false_eq_true] at r88 ⊢)
      refine V_iconst hx dX11_goesOn_91 ?_
      refine V_iadd hx dX11_goesOn_92 ?_
      refine V_putIx 11 hx hF flX11_211 dX11_goesOn_93 rfl rfl (fun r h => by cases h; rfl) (k49 hN) rfl (by omega) (Or.inl (by decide)) (fun hF => ?_)
      refine V_drop_1 ?_
      first
        | exact TAIL I hF (by unfold gTick; rw [cif_f (by omega)]) rfl rfl tp tw ts
        | skip
      all_goals refine TAIL (gSend I (mkN I) (wOf I (I 55 (13 * mkN I + 8)))) hF (by unfold gTick; rw [cif_t ⟨by omega, by omega⟩]) (by unfold gSend; rw [up_k (by decide), up_c (by decide), up_c (by decide), up_c (by decide), up_c (by decide), up_k (by decide)]) (by unfold gSend; rw [up_k (by decide), up_c (by decide), up_c (by decide), up_c (by decide), up_c (by decide), up_k (by decide)]) (Or.inr (by unfold gSend; rw [up_k (by decide), up_c (by decide), up_c (by decide), up_c (by decide), up_c (by decide), up_s]; exact hwo.1)) (fun w w0 w1 => ?_) (fun s s0 s1 => by unfold gSend; rw [up_c (by decide), up_c (by decide), up_c (by decide), up_c (by decide), up_c (by decide), up_c (by decide)]; exact ts s s0 s1)
      all_goals have hw := tw w w0 w1
      all_goals (unfold gSend; rw [up_c (by decide), up_c (by decide), up_k (by omega), up_k (by omega), up_k (by omega), up_c (by decide), up_c (by decide), up_c (by decide), up_k (by omega), up_k (by omega), up_k (by omega), up_c (by decide), up_c (by decide), up_c (by decide)])
      all_goals refine ⟨hw.1, hw.2.1, ?_⟩
      all_goals (by_cases hq : w = wOf I (I 55 (13 * mkN I + 8)); (subst hq; rw [up_s]; omega); (rw [up_k (by omega), up_k (by omega), up_k (by omega), up_c (by decide)]; exact hw.2.2))

set_option maxRecDepth 8000 in
theorem c_X11_ticks {l : Launch} {d : Dd} {z : Nat} {N : Int} {I : Mm} {P : Mm → Prop} {n : Int} (hN : 67 ≤ N) (hF : Fx I) (hP : P I) (hPb : ∀ M : Mm, P M → TickOK M) (hPs : ∀ M : Mm, P M → M 49 7 < 99999 → P (gTick M)) (hn0 : 0 ≤ I 49 7 ∧ I 49 7 ≤ 99999) (hn : -2147483648 ≤ n ∧ n ≤ 2147483647) : Cn l d z yX11_ticks cX11_ticks 3 (some .int) 5 110 0 0 [vR z 49, vI n] N I (pI (fun r N' I' => r = aTicks I n ∧ I' = gTicks I n ∧ N' = N ∧ Fx I' ∧ P I')) := by
  refine Cn.ofA [(vR z 49, false), (vI n, false)] [some (vR z 49), some (vI n), none] RX11 (by decide) rfl ⟨cR z 49, rfl, trivial⟩ (Nat.le_of_ble_eq_true rfl) rfl (fun x ed el hx hini => ?_)
  refine V_iload_1 hx dX11_ticks_0 ?_
  refine V_i2l hx dX11_ticks_1 (by omega) ?_
  refine V_lconst (v := 1) hx dX11_ticks_2 (by decide) ?_
  refine V_ldc2 (v := 500) hx kcX11_214 dX11_ticks_3 (by decide) ?_
  refine V_s3P hx el ed (c_X11_in (by omega) (by omega) (by omega)) myX11_in mlX11_70 dX11_ticks_6 (by decide) (by omega) rfl (by first | exact Nat.le_of_ble_eq_true rfl | simp [vI, vL, vR_cat, Value.category]) ?_
  refine V_ifB_ne (tgt := 14) hx dX11_ticks_9 (by decide) (fun h9 => ?_) (fun h9 => ?_)
  · refine V_aload_0 hx dX11_ticks_14 ?_
    refine V_getIx 7 hx hF flX11_111 dX11_ticks_15 rfl rfl (k49 hN) (fun r15 => ?_)
    refine V_iload_1 hx dX11_ticks_18 ?_
    refine V_iadd hx dX11_ticks_19 ?_
    refine V_ldc (v := 99999) hx kcX11_216 dX11_ticks_20 (by decide) ?_
    refine V_icmp_le (tgt := 28) hx dX11_ticks_22 (by decide) (by omega) (by omega) (fun h22 => ?_) (fun h22 => ?_)
    · refine V_iconst hx dX11_ticks_28 ?_
      refine V_istore_2 hx (by first | exact nc_I | exact nc_R | exact nc_n) dX11_ticks_29 ?_
      refine loop_inv (α := Mm) 0 n (by omega) (fun i M => M = gTicksN I i.toNat ∧ Fx M ∧ P M ∧ M 49 7 = I 49 7 + i) (fun i M => V x z _ N M 0 0 30 [some (vR z 49), some (vI n), some (vI i)] []) ?_ ?_ _ ⟨rfl, hF, hP, by omega⟩
      · rintro M ⟨eM, hF, hPM, hM7⟩
        refine V_iload_2 hx dX11_ticks_30 ?_
        refine V_iload_1 hx dX11_ticks_31 ?_
        refine V_icmp_ge (tgt := 45) hx dX11_ticks_32 (by decide) (by omega) (by omega) (fun h32 => ?_) (fun h32 => ?_)
        · refine V_aload_0 hx dX11_ticks_45 ?_
          refine V_getIx 7 hx hF flX11_111 dX11_ticks_46 rfl rfl (k49 hN) (fun r46 => ?_)
          refine V_ireturn hx dX11_ticks_49 (by omega) (by omega) ?_
          exact ⟨_, rfl, by unfold aTicks; (repeat (first | rw [cif_t (by omega)] | rw [cif_f (by omega)])); all_goals omega, by unfold gTicks; rw [eM, cif_t ⟨by omega, by omega⟩], rfl, hF, hPM⟩
        · exfalso; omega
      · rintro i M hi0 hi1 ⟨eM, hF, hPM, hM7⟩ ih
        refine V_iload_2 hx dX11_ticks_30 ?_
        refine V_iload_1 hx dX11_ticks_31 ?_
        refine V_icmp_ge (tgt := 45) hx dX11_ticks_32 (by decide) (by omega) (by omega) (fun h32 => ?_) (fun h32 => ?_)
        · exfalso; omega
        · refine V_aload_0 hx dX11_ticks_35 ?_
          refine V_v0N hx el ed (c_X11_goesOn hN hF (hPb M hPM)) myX11_goesOn mlX11_217 dX11_ticks_36 ⟨_, rfl, rfl⟩ (k49 hN) (by decide) (by omega) rfl (by first | exact Nat.le_of_ble_eq_true rfl | simp [vI, vL, vR_cat, Value.category]) (fun N2 I2 ⟨eN2, eI2, hF⟩ => ?_)
          subst eN2; subst eI2
          refine V_iinc_2 hx (by first | exact nc_I | exact nc_R | exact nc_n) dX11_ticks_39 ?_
          refine V_goto (tgt := 30) hx dX11_ticks_42 (by decide) ?_
          refine ih _ ⟨?_, hF, hPs M hPM (by omega), by rw [gTick_7]; omega⟩
          unfold gTicksN
          rw [fld_s _ _ hi0, eM]
          rfl
    · refine V_bipush hx dX11_ticks_25 (by decide) ?_
      refine V_ireturn hx dX11_ticks_27 (by omega) (by omega) ?_
      exact ⟨_, rfl, by unfold aTicks; (repeat (first | rw [cif_t (by omega)] | rw [cif_f (by omega)])); all_goals (exfalso; omega), by unfold gTicks; rw [cif_f (by omega)], rfl, hF, hP⟩
  · refine V_iconst hx dX11_ticks_12 ?_
    refine V_ireturn hx dX11_ticks_13 (by omega) (by omega) ?_
    exact ⟨_, rfl, by unfold aTicks; (repeat (first | rw [cif_t (by omega)] | rw [cif_f (by omega)])); all_goals (exfalso; omega), by unfold gTicks; rw [cif_f (by omega)], rfl, hF, hP⟩

