theorem shr_b {I : Mm} (h : SetOK I) {q : Int} (h0 : 0 ≤ q) (h1 : q ≤ 7) : 0 ≤ shr I q ∧ shr I q ≤ 16 := by
  have h7 := h.at h0 h1
  unfold shr
  by_cases c : isInS I q
  · rw [cif_t c]; omega
  · rw [cif_f c]; omega
theorem shr_pos {I : Mm} (h : SetOK I) {s : Int} (h0 : 0 ≤ s) (h1 : s ≤ 7) (hs : isInS I s) : 1 ≤ fld (fun a q => a + shr I q) 0 8 := by
  have key : ∀ n : Nat, n ≤ 8 → s < n → 1 ≤ fld (fun a q => a + shr I q) 0 n := by
    intro n
    induction n with
    | zero => intro _ h; omega
    | succ n ih =>
      intro hn hsn
      have e : fld (fun a q => a + shr I q) 0 (n + 1) = fld (fun a q => a + shr I q) 0 n + shr I n := rfl
      rw [e]
      have hb := fld_bb (f := shr I) (a0 := 0) (B := 16) (m := 8) (fun q h0 h1 => shr_b h h0 (by omega)) (by decide) n (by omega)
      have h2 := shr_b h (q := n) (by omega) (by omega)
      by_cases hc : s = n
      · subst hc
        have h7 := h.at h0 h1
        have : shr I (n : Int) = I 50 (7 * (n : Int) + 1) := cif_t hs
        omega
      · have := ih (by omega) (by omega)
        omega
  exact key 8 (Nat.le_refl _) (by omega)

set_option maxRecDepth 8000 in
theorem c_X11_lags {l : Launch} {d : Dd} {z : Nat} {N : Int} {I : Mm} {s : Int} (hN : 67 ≤ N) (hF : Fx I) (hset : SetOK I) (hm : 0 ≤ I 49 6 ∧ I 49 6 ≤ 1000) (hT : ∀ q : Int, 0 ≤ q → q ≤ 7 → 0 ≤ I 54 q ∧ I 54 q ≤ 99000) (hs : -2147483648 ≤ s ∧ s ≤ 2147483647) : Cn l d z yX11_lags cX11_lags 8 (some .int) 2 45 0 0 [vR z 49, vI s] N I (pv (vI (aLags I s)) N I) := by
  refine Cn.ofA [(vR z 49, false), (vI s, false)] [some (vR z 49), some (vI s), none, none, none, none, none, none] RX11 (by decide) rfl ⟨cR z 49, rfl, trivial⟩ (Nat.le_of_ble_eq_true rfl) rfl (fun x ed el hx hini => ?_)
  have hin : 0 ≤ s → s ≤ 7 → isInS I s → 1 ≤ fld (fun a q => a + shr I q) 0 8 := fun h0 h1 h2 => shr_pos hset h0 h1 h2
  refine V_iload_1 hx dX11_lags_0 ?_
  refine V_s1P hx el ed (c_X11_isStream (by omega)) myX11_isStream mlX11_84 dX11_lags_1 (by decide) (by omega) rfl (by first | exact Nat.le_of_ble_eq_true rfl | simp [vI, vL, vR_cat, Value.category]) ?_
  refine V_ifB_ne (tgt := 10) hx dX11_lags_4 (by decide) (fun h4 => ?_) (fun h4 => ?_)
  · refine V_aload_0 hx dX11_lags_10 ?_
    refine V_iload_1 hx dX11_lags_11 ?_
    refine V_v1P hx el ed (c_X11_isIn hN hF (by omega) (by omega)) myX11_isIn mlX11_228 dX11_lags_12 ⟨_, rfl, rfl⟩ (k49 hN) (by decide) (by omega) rfl (by first | exact Nat.le_of_ble_eq_true rfl | simp [vI, vL, vR_cat, Value.category]) ?_
    refine V_ifB_ne (tgt := 21) hx dX11_lags_15 (by decide) (fun h15 => ?_) (fun h15 => ?_)
    · refine V_iconst hx dX11_lags_21 ?_
      refine V_istore_2 hx (by first | exact nc_I | exact nc_R | exact nc_n) dX11_lags_22 ?_
      refine V_iconst hx dX11_lags_23 ?_
      refine V_istore_3 hx (by first | exact nc_I | exact nc_R | exact nc_n) dX11_lags_24 ?_
      refine V_iconst hx dX11_lags_25 ?_
      refine V_istore_4 hx (by first | exact nc_I | exact nc_R | exact nc_n) dX11_lags_26 ?_
      refine loop_fn 8 (by decide) (fun i => V x z _ N I 0 0 28 [some (vR z 49), some (vI s), some (vI (fld (fun a q => a + shr I q) 0 i.toNat)), some (vI (fld (fun a q => a + I 54 q) 0 i.toNat)), some (vI i), none, none, none] []) ?_ ?_
      · have b1 := fld_bb (f := shr I) (a0 := 0) (B := 16) (m := 8) (fun q h0 h1 => shr_b hset h0 (by omega)) (by decide) 8 (Nat.le_refl _)
        have b2 := fld_bb (f := fun q => I 54 q) (a0 := 0) (B := 99000) (m := 8) (fun q h0 h1 => hT q h0 (by omega)) (by decide) 8 (Nat.le_refl _)
        have b3 := hset.at (I := I) (s := s) (by omega) (by omega)
        have b4 := hT s (by omega) (by omega)
        have b5 := hin (by omega) (by omega) (by assumption)
        have m1 := mulb (a := I 50 (7 * s + 1)) (b := fld (fun a q => a + I 54 q) 0 8) (A := 16) (B := 800000) (by omega) (by omega)
        have m2 := mulb (a := fld (fun a q => a + shr I q) 0 8) (b := I 54 s) (A := 128) (B := 99000) (by omega) (by omega)
        have e8 : (8 : Int).toNat = 8 := rfl
        rw [e8]
        refine V_iload_4 hx dX11_lags_28 ?_
        refine V_bipush hx dX11_lags_30 (by decide) ?_
        refine V_icmp_ge (tgt := 74) hx dX11_lags_32 (by decide) (by omega) (by omega) (fun h32 => ?_) (fun h32 => ?_)
        · refine V_aload_0 hx dX11_lags_74 ?_
          refine V_iload_1 hx dX11_lags_75 ?_
          refine V_iconst hx dX11_lags_76 ?_
          refine V_v2Q hx el ed (c_X11_setOf hN hF (by omega)) myX11_setOf mlX11_92 dX11_lags_77 ⟨_, rfl, rfl⟩ (k49 hN) (by decide) (by omega) rfl (by first | exact Nat.le_of_ble_eq_true rfl | simp [vI, vL, vR_cat, Value.category]) (fun r77 => ?_)
          refine V_i2l hx dX11_lags_80 (by omega) ?_
          refine V_iload_3 hx dX11_lags_81 ?_
          refine V_i2l hx dX11_lags_82 (by omega) ?_
          refine V_lmul hx dX11_lags_83 ?_
          refine V_iload_2 hx dX11_lags_84 ?_
          refine V_i2l hx dX11_lags_85 (by omega) ?_
          refine V_aload_0 hx dX11_lags_86 ?_
          refine V_getRe hx flX11_22 dX11_lags_87 rfl (k49 hN) (hF.1 49 4 54 rfl) ?_
          refine V_iload_1 hx dX11_lags_90 ?_
          refine V_ialoadx hx hF dX11_lags_91 (k54 hN) (by decide) (by omega) (fun r91 => ?_)
          refine V_i2l hx dX11_lags_92 (by omega) ?_
          refine V_lmul hx dX11_lags_93 ?_
          refine V_lsub hx dX11_lags_94 ?_
          obtain ⟨v, hv⟩ : ∃ v : Int, v = (I 50 (7 * s + 1) * fld (fun a q => a + I 54 q) 0 8 - fld (fun a q => a + shr I q) 0 8 * I 54 s) := ⟨_, rfl⟩
          refine V_topL v hv.symm ?_
          have ft := floor_t (v := v) (d := fld (fun a q => a + shr I q) 0 8) (by omega)
          have mt := Int.mul_tdiv_add_tmod v (fld (fun a q => a + shr I q) 0 8)
          rw [Int.mul_comm] at mt
          have mt1 : -(fld (fun a q => a + shr I q) 0 8) < v.tmod (fld (fun a q => a + shr I q) 0 8) := Int.lt_tmod_of_pos v (by omega)
          have mt2 : v.tmod (fld (fun a q => a + shr I q) 0 8) < fld (fun a q => a + shr I q) 0 8 := Int.tmod_lt_of_pos v (by omega)
          have mv : -30000000 ≤ v ∧ v ≤ 30000000 := by omega
          refine V_lstore_4 hx (by first | exact nc_I | exact nc_R | exact nc_n) dX11_lags_95 ?_
          refine V_lload_4 hx dX11_lags_97 ?_
          refine V_iload_2 hx dX11_lags_99 ?_
          refine V_i2l hx dX11_lags_100 (by omega) ?_
          refine V_ldiv hx (v.tdiv (fld (fun a q => a + shr I q) 0 8)) dX11_lags_101 (oL_div (a := v) (by omega) (by omega)).2 (oL_div (by omega) (by omega)).1 ?_
          refine V_lstore_6 hx (by first | exact nc_I | exact nc_R | exact nc_n) dX11_lags_102 ?_
          refine V_lload_6 hx dX11_lags_104 ?_
          refine V_iload_2 hx dX11_lags_106 ?_
          refine V_i2l hx dX11_lags_107 (by omega) ?_
          refine V_lmul hx dX11_lags_108 ?_
          refine V_lload_4 hx dX11_lags_109 ?_
          refine V_lif_le (tgt := 122) hx dX11_lags_111 dX11_lags_112 (by decide) (by omega) (by omega) (fun h112 => ?_) (fun h112 => ?_)
          · refine V_lload_6 hx dX11_lags_122 ?_
            refine V_l2i hx dX11_lags_124 ?_
            refine V_ireturn hx dX11_lags_125 (by omega) (by omega) ?_
            refine ⟨?_, rfl, rfl⟩
            unfold aLags
            rw [cif_t (by omega), cif_t (by assumption), ← hv]
            first | rw [ft.1 (by omega)] | rw [ft.2 (by omega)]
          · refine V_lload_6 hx dX11_lags_115 ?_
            refine V_lconst (v := 1) hx dX11_lags_117 (by decide) ?_
            refine V_lsub hx dX11_lags_118 ?_
            refine V_goto (tgt := 124) hx dX11_lags_119 (by decide) ?_
            refine V_l2i hx dX11_lags_124 ?_
            refine V_ireturn hx dX11_lags_125 (by omega) (by omega) ?_
            refine ⟨?_, rfl, rfl⟩
            unfold aLags
            rw [cif_t (by omega), cif_t (by assumption), ← hv]
            first | rw [ft.1 (by omega)] | rw [ft.2 (by omega)]
        · exfalso; omega
      · intro i hi0 hi1 ih
        have b4 := hT i (by omega) (by omega)
        refine V_iload_4 hx dX11_lags_28 ?_
        refine V_bipush hx dX11_lags_30 (by decide) ?_
        refine V_icmp_ge (tgt := 74) hx dX11_lags_32 (by decide) (by omega) (by omega) (fun h32 => ?_) (fun h32 => ?_)
        · exfalso; omega
        · refine V_iload_2 hx dX11_lags_35 ?_
          refine V_aload_0 hx dX11_lags_36 ?_
          refine V_iload_4 hx dX11_lags_37 ?_
          refine V_v1P hx el ed (c_X11_isIn hN hF (by omega) (by omega)) myX11_isIn mlX11_228 dX11_lags_39 ⟨_, rfl, rfl⟩ (k49 hN) (by decide) (by omega) rfl (by first | exact Nat.le_of_ble_eq_true rfl | simp [vI, vL, vR_cat, Value.category]) ?_
          refine V_ifB_eq (tgt := 55) hx dX11_lags_42 (by decide) (fun h42 => ?_) (fun h42 => ?_)
          · refine V_iconst hx dX11_lags_55 ?_
            refine V_iadd hx dX11_lags_56 ?_
            refine V_istore_2 hx (by first | exact nc_I | exact nc_R | exact nc_n) dX11_lags_57 ?_
            refine V_iload_3 hx dX11_lags_58 ?_
            refine V_aload_0 hx dX11_lags_59 ?_
            refine V_getRe hx flX11_22 dX11_lags_60 rfl (k49 hN) (hF.1 49 4 54 rfl) ?_
            refine V_iload_4 hx dX11_lags_63 ?_
            refine V_ialoadx hx hF dX11_lags_65 (k54 hN) (by decide) (by omega) (fun r65 => ?_)
            refine V_iadd hx dX11_lags_66 ?_
            refine V_istore_3 hx (by first | exact nc_I | exact nc_R | exact nc_n) dX11_lags_67 ?_
            refine V_iinc_4 hx (by first | exact nc_I | exact nc_R | exact nc_n) dX11_lags_68 ?_
            refine V_goto (tgt := 28) hx dX11_lags_71 (by decide) ?_
            rw [fld_s _ _ hi0, fld_s _ _ hi0] at ih
            unfold shr at ih
            first | (rw [cif_t (by assumption)] at ih; exact ih) | (rw [cif_f (by assumption)] at ih; exact ih)
          · refine V_aload_0 hx dX11_lags_45 ?_
            refine V_iload_4 hx dX11_lags_46 ?_
            refine V_iconst hx dX11_lags_48 ?_
            refine V_v2Q hx el ed (c_X11_setOf hN hF (by omega)) myX11_setOf mlX11_92 dX11_lags_49 ⟨_, rfl, rfl⟩ (k49 hN) (by decide) (by omega) rfl (by first | exact Nat.le_of_ble_eq_true rfl | simp [vI, vL, vR_cat, Value.category]) (fun r49 => ?_)
            refine V_goto (tgt := 56) hx dX11_lags_52 (by decide) ?_
            refine V_iadd hx dX11_lags_56 ?_
            refine V_istore_2 hx (by first | exact nc_I | exact nc_R | exact nc_n) dX11_lags_57 ?_
            refine V_iload_3 hx dX11_lags_58 ?_
            refine V_aload_0 hx dX11_lags_59 ?_
            refine V_getRe hx flX11_22 dX11_lags_60 rfl (k49 hN) (hF.1 49 4 54 rfl) ?_
            refine V_iload_4 hx dX11_lags_63 ?_
            refine V_ialoadx hx hF dX11_lags_65 (k54 hN) (by decide) (by omega) (fun r65 => ?_)
            refine V_iadd hx dX11_lags_66 ?_
            refine V_istore_3 hx (by first | exact nc_I | exact nc_R | exact nc_n) dX11_lags_67 ?_
            refine V_iinc_4 hx (by first | exact nc_I | exact nc_R | exact nc_n) dX11_lags_68 ?_
            refine V_goto (tgt := 28) hx dX11_lags_71 (by decide) ?_
            rw [fld_s _ _ hi0, fld_s _ _ hi0] at ih
            unfold shr at ih
            first | (rw [cif_t (by assumption)] at ih; exact ih) | (rw [cif_f (by assumption)] at ih; exact ih)
    · refine V_ldc (v := -100004) hx kcX11_227 dX11_lags_18 (by decide) ?_
      refine V_ireturn hx dX11_lags_20 (by omega) (by omega) ?_
      exact ⟨by unfold aLags; (repeat (first | rw [cif_t (by first | omega | assumption)] | rw [cif_f (by first | omega | assumption)])); all_goals (exfalso; omega), rfl, rfl⟩
  · refine V_ldc (v := -100001) hx kcX11_226 dX11_lags_7 (by decide) ?_
    refine V_ireturn hx dX11_lags_9 (by omega) (by omega) ?_
    exact ⟨by unfold aLags; (repeat (first | rw [cif_t (by first | omega | assumption)] | rw [cif_f (by first | omega | assumption)])); all_goals (exfalso; omega), rfl, rfl⟩

set_option maxRecDepth 8000 in
theorem c_X11_behind {l : Launch} {d : Dd} {z : Nat} {N : Int} {I : Mm} {w k : Int} (hN : 67 ≤ N) (hF : Fx I) (hm : 0 ≤ I 49 6 ∧ I 49 6 ≤ 1000) (hw : -2147483648 ≤ w ∧ w ≤ 2147483647) (hk : -2147483648 ≤ k ∧ k ≤ 2147483647) (hbe : ∀ w : Int, 0 ≤ w → w ≤ I 49 6 - 1 → I 55 (13 * w + 10) ≠ -4 → ∃ p : Int, 0 ≤ p ∧ p < 1000 ∧ I 56 p = w ∧ ∀ j : Int, 0 ≤ j → j < p → I 56 j ≠ w) : Cn l d z yX11_behind cX11_behind 5 (some .int) 2 46 0 0 [vR z 49, vI w, vI k] N I (pI (fun r N' I' => N' = N ∧ I' = I ∧ behA I w k r)) := by
  refine Cn.ofA [(vR z 49, false), (vI w, false), (vI k, false)] [some (vR z 49), some (vI w), some (vI k), none, none] RX11 (by decide) rfl ⟨cR z 49, rfl, rfl, trivial⟩ (Nat.le_of_ble_eq_true rfl) rfl (fun x ed el hx hini => ?_)
  refine V_aload_0 hx dX11_behind_0 ?_
  refine V_iload_1 hx dX11_behind_1 ?_
  refine V_v1P hx el ed (c_X11_isWord hN hF (by omega) (by omega)) myX11_isWord mlX11_189 dX11_behind_2 ⟨_, rfl, rfl⟩ (k49 hN) (by decide) (by omega) rfl (by first | exact Nat.le_of_ble_eq_true rfl | simp [vI, vL, vR_cat, Value.category]) ?_
  refine V_ifB_eq (tgt := 13) hx dX11_behind_5 (by decide) (fun h5 => ?_) (fun h5 => ?_)
  · refine V_iconst hx dX11_behind_13 ?_
    refine V_ireturn hx dX11_behind_14 (by omega) (by omega) ?_
    exact ⟨_, rfl, rfl, rfl, fun _ => rfl, fun h1 h2 => by omega, fun h1 h2 => by omega⟩
  · refine V_iload_2 hx dX11_behind_8 ?_
    refine V_iconst hx dX11_behind_9 ?_
    refine V_icmp_ge (tgt := 15) hx dX11_behind_10 (by decide) (by omega) (by omega) (fun h10 => ?_) (fun h10 => ?_)
    · refine V_aload_0 hx dX11_behind_15 ?_
      refine V_iload_1 hx dX11_behind_16 ?_
      refine V_bipush hx dX11_behind_17 (by decide) ?_
      refine V_v2Q hx el ed (c_X11_of hN hF (by omega)) myX11_of mlX11_99 dX11_behind_19 ⟨_, rfl, rfl⟩ (k49 hN) (by decide) (by omega) rfl (by first | exact Nat.le_of_ble_eq_true rfl | simp [vI, vL, vR_cat, Value.category]) (fun r19 => ?_)
      refine V_bipush hx dX11_behind_22 (by decide) ?_
      refine V_icmp_ne (tgt := 30) hx dX11_behind_24 (by decide) (by omega) (by omega) (fun h24 => ?_) (fun h24 => ?_)
      · refine V_iconst hx dX11_behind_30 ?_
        refine V_istore_3 hx (by first | exact nc_I | exact nc_R | exact nc_n) dX11_behind_31 ?_
        refine V_iconst hx dX11_behind_32 ?_
        refine V_istore_4 hx (by first | exact nc_I | exact nc_R | exact nc_n) dX11_behind_33 ?_
        obtain ⟨p, hp0, hp1, hp2, hp3⟩ := hbe w (by omega) (by omega) (by omega)
        have U : ∀ p2 : Int, 0 ≤ p2 → I 56 p2 = w → (∀ j : Int, 0 ≤ j → j < p2 → I 56 j ≠ w) → p2 = p := by
          intro p2 a b c
          rcases Int.lt_trichotomy p2 p with q | q | q
          · exact absurd b (hp3 p2 a q)
          · exact q
          · exact absurd hp2 (c p hp0 q)
        refine loop_inv (α := Int) 0 p hp0 (fun i n => n = cntW (fun q => w < I 56 q) i.toNat ∧ (0 ≤ k → n ≤ k)) (fun i n => V x z _ N I 0 0 35 [some (vR z 49), some (vI w), some (vI k), some (vI n), some (vI i)] []) ?_ ?_ 0 ⟨rfl, fun h => h⟩
        · rintro n ⟨en, hn⟩
          have hcb := cntW_b (fun q => w < I 56 q) p.toNat
          refine V_aload_0 hx dX11_behind_35 ?_
          refine V_getRe hx flX11_28 dX11_behind_36 rfl (k49 hN) (hF.1 49 10 56 rfl) ?_
          refine V_iload_4 hx dX11_behind_39 ?_
          refine V_ialoadx hx hF dX11_behind_41 (k56 hN) (by decide) (by omega) (fun r41 => ?_)
          refine V_iload_1 hx dX11_behind_42 ?_
          refine V_icmp_eq (tgt := 79) hx dX11_behind_43 (by decide) (by omega) (by omega) (fun h43 => ?_) (fun h43 => ?_)
          · refine V_iload_2 hx dX11_behind_79 ?_
            refine V_iconst hx dX11_behind_80 ?_
            refine V_icmp_ne (tgt := 88) hx dX11_behind_81 (by decide) (by omega) (by omega) (fun h81 => ?_) (fun h81 => ?_)
            · refine V_bipush hx dX11_behind_88 (by decide) ?_
              refine V_ireturn hx dX11_behind_90 (by omega) (by omega) ?_
              refine ⟨_, rfl, rfl, rfl, fun h1 => by omega, fun h1 h2 h3 => by omega, fun _ _ _ p2 a b c => ?_⟩
              have e := U p2 a b c
              subst e
              exact ⟨fun q => by omega, fun q => by first | omega | exact Or.inr ⟨by omega, rfl⟩⟩
            · refine V_iload_3 hx dX11_behind_84 ?_
              refine V_goto (tgt := 90) hx dX11_behind_85 (by decide) ?_
              refine V_ireturn hx dX11_behind_90 (by omega) (by omega) ?_
              refine ⟨_, rfl, rfl, rfl, fun h1 => by omega, fun h1 h2 h3 => by omega, fun _ _ _ p2 a b c => ?_⟩
              have e := U p2 a b c
              subst e
              exact ⟨fun q => by omega, fun q => by first | omega | exact Or.inr ⟨by omega, rfl⟩⟩
          · exfalso; omega
        · rintro i n hi0 hi1 ⟨en, hn⟩ ih
          have hne := hp3 i hi0 hi1
          have hcb := cntW_b (fun q => w < I 56 q) i.toNat
          refine V_aload_0 hx dX11_behind_35 ?_
          refine V_getRe hx flX11_28 dX11_behind_36 rfl (k49 hN) (hF.1 49 10 56 rfl) ?_
          refine V_iload_4 hx dX11_behind_39 ?_
          refine V_ialoadx hx hF dX11_behind_41 (k56 hN) (by decide) (by omega) (fun r41 => ?_)
          refine V_iload_1 hx dX11_behind_42 ?_
          refine V_icmp_eq (tgt := 79) hx dX11_behind_43 (by decide) (by omega) (by omega) (fun h43 => ?_) (fun h43 => ?_)
          · exfalso; omega
          · refine V_aload_0 hx dX11_behind_46 ?_
            refine V_getRe hx flX11_28 dX11_behind_47 rfl (k49 hN) (hF.1 49 10 56 rfl) ?_
            refine V_iload_4 hx dX11_behind_50 ?_
            refine V_ialoadx hx hF dX11_behind_52 (k56 hN) (by decide) (by omega) (fun r52 => ?_)
            refine V_iload_1 hx dX11_behind_53 ?_
            refine V_icmp_le (tgt := 73) hx dX11_behind_54 (by decide) (by omega) (by omega) (fun h54 => ?_) (fun h54 => ?_)
            · refine V_iinc_4 hx (by first | exact nc_I | exact nc_R | exact nc_n) dX11_behind_73 ?_
              refine V_goto (tgt := 35) hx dX11_behind_76 (by decide) ?_
              first | exact ih _ ⟨by rw [cntW_s _ hi0, cif_t (by omega)]; omega, fun h => by omega⟩ | exact ih _ ⟨by rw [cntW_s _ hi0, cif_f (by omega)]; omega, fun h => by omega⟩
            · refine V_iload_3 hx dX11_behind_57 ?_
              refine V_iload_2 hx dX11_behind_58 ?_
              refine V_icmp_ne (tgt := 70) hx dX11_behind_59 (by decide) (by omega) (by omega) (fun h59 => ?_) (fun h59 => ?_)
              · refine V_iinc_3 hx (by first | exact nc_I | exact nc_R | exact nc_n) dX11_behind_70 ?_
                refine V_iinc_4 hx (by first | exact nc_I | exact nc_R | exact nc_n) dX11_behind_73 ?_
                refine V_goto (tgt := 35) hx dX11_behind_76 (by decide) ?_
                first | exact ih _ ⟨by rw [cntW_s _ hi0, cif_t (by omega)]; omega, fun h => by omega⟩ | exact ih _ ⟨by rw [cntW_s _ hi0, cif_f (by omega)]; omega, fun h => by omega⟩
              · refine V_aload_0 hx dX11_behind_62 ?_
                refine V_getRe hx flX11_28 dX11_behind_63 rfl (k49 hN) (hF.1 49 10 56 rfl) ?_
                refine V_iload_4 hx dX11_behind_66 ?_
                refine V_ialoadx hx hF dX11_behind_68 (k56 hN) (by decide) (by omega) (fun r68 => ?_)
                refine V_ireturn hx dX11_behind_69 (by omega) (by omega) ?_
                refine ⟨_, rfl, rfl, rfl, fun h1 => by omega, fun h1 h2 h3 => by omega, fun _ _ _ p2 a b c => ?_⟩
                have e := U p2 a b c
                subst e
                exact ⟨fun q => by omega, fun q => Or.inl ⟨i, hi0, hi1, by omega, by omega, rfl⟩⟩
      · refine V_bipush hx dX11_behind_27 (by decide) ?_
        refine V_ireturn hx dX11_behind_29 (by omega) (by omega) ?_
        exact ⟨_, rfl, rfl, rfl, fun h1 => by omega, fun _ _ _ => rfl, fun h1 h2 h3 => by omega⟩
    · refine V_iconst hx dX11_behind_13 ?_
      refine V_ireturn hx dX11_behind_14 (by omega) (by omega) ?_
      exact ⟨_, rfl, rfl, rfl, fun _ => rfl, fun h1 h2 => by omega, fun h1 h2 => by omega⟩

set_option maxRecDepth 8000 in
theorem c_X11_comes {l : Launch} {d : Dd} {z : Nat} {N : Int} {I : Mm} {P : Mm → Prop} {s lane i0 n : Int} (hN : 67 ≤ N) (hF : Fx I) (hP : P I) (hPb : ∀ M : Mm, P M → SetOK M ∧ SS M ∧ (0 ≤ M 49 7 ∧ M 49 7 ≤ 99999) ∧ (0 ≤ M 49 8 ∧ M 49 8 ≤ 1584 * M 49 6)) (hPs : ∀ (M : Mm) (s ln : Int), P M → 0 ≤ s ∧ s ≤ 7 → 1 ≤ ln ∧ ln ≤ 99 → M 49 6 < 1000 → P (gComes M s ln)) (hm : 0 ≤ I 49 6 ∧ I 49 6 ≤ 1000) (hs0 : ∀ q : Int, 0 ≤ q → q ≤ 3 → 0 ≤ I 59 q ∧ I 59 q ≤ 24) (hs : -2147483648 ≤ s ∧ s ≤ 2147483647) (hlane : -2147483648 ≤ lane ∧ lane ≤ 2147483647) (hi0 : -2147483648 ≤ i0 ∧ i0 ≤ 2147483647) (hn : -2147483648 ≤ n ∧ n ≤ 2147483647) : Cn l d z yX11_comes cX11_comes 8 (some .int) 4 93 0 0 [vR z 49, vI s, vI lane, vI i0, vI n] N I (pI (fun r N' I' => r = aComes I s lane i0 n ∧ I' = gComes2 I s lane i0 n ∧ N' = N ∧ Fx I' ∧ P I')) := by
  refine Cn.ofA [(vR z 49, false), (vI s, false), (vI lane, false), (vI i0, false), (vI n, false)] [some (vR z 49), some (vI s), some (vI lane), some (vI i0), some (vI n), none, none, none] RX11 (by decide) rfl ⟨cR z 49, rfl, rfl, rfl, rfl, trivial⟩ (Nat.le_of_ble_eq_true rfl) rfl (fun x ed el hx hini => ?_)
  refine V_iload_1 hx dX11_comes_0 ?_
  refine V_s1P hx el ed (c_X11_isSheet (by omega)) myX11_isSheet mlX11_140 dX11_comes_1 (by decide) (by omega) rfl (by first | exact Nat.le_of_ble_eq_true rfl | simp [vI, vL, vR_cat, Value.category]) ?_
  refine V_ifB_eq (tgt := 27) hx dX11_comes_4 (by decide) (fun h4 => ?_) (fun h4 => ?_)
  · refine V_iconst hx dX11_comes_27 ?_
    refine V_ireturn hx dX11_comes_28 (by omega) (by omega) ?_
    exact ⟨_, rfl, by unfold aComes; (repeat (first | rw [cif_t (by first | omega | assumption)] | rw [cif_f (by first | omega | assumption)])); all_goals (exfalso; omega), by unfold gComes2; rw [cif_f (by omega)], rfl, hF, hP⟩
  · refine V_iload_2 hx dX11_comes_7 ?_
    refine V_s1P hx el ed (c_X11_isLane (by omega)) myX11_isLane mlX11_143 dX11_comes_8 (by decide) (by omega) rfl (by first | exact Nat.le_of_ble_eq_true rfl | simp [vI, vL, vR_cat, Value.category]) ?_
    refine V_ifB_eq (tgt := 27) hx dX11_comes_11 (by decide) (fun h11 => ?_) (fun h11 => ?_)
    · refine V_iconst hx dX11_comes_27 ?_
      refine V_ireturn hx dX11_comes_28 (by omega) (by omega) ?_
      exact ⟨_, rfl, by unfold aComes; (repeat (first | rw [cif_t (by first | omega | assumption)] | rw [cif_f (by first | omega | assumption)])); all_goals (exfalso; omega), by unfold gComes2; rw [cif_f (by omega)], rfl, hF, hP⟩
    · refine V_iload_4 hx dX11_comes_14 ?_
      refine V_i2l hx dX11_comes_16 (by omega) ?_
      refine V_lconst (v := 0) hx dX11_comes_17 (by decide) ?_
      refine V_ldc2 (v := 12) hx kcX11_153 dX11_comes_18 (by decide) ?_
      refine V_s3P hx el ed (c_X11_in (by omega) (by omega) (by omega)) myX11_in mlX11_70 dX11_comes_21 (by decide) (by omega) rfl (by first | exact Nat.le_of_ble_eq_true rfl | simp [vI, vL, vR_cat, Value.category]) ?_
      refine V_ifB_ne (tgt := 29) hx dX11_comes_24 (by decide) (fun h24 => ?_) (fun h24 => ?_)
      · refine V_aload_0 hx dX11_comes_29 ?_
        refine V_iload_1 hx dX11_comes_30 ?_
        refine V_iload_2 hx dX11_comes_31 ?_
        refine V_iload_3 hx dX11_comes_32 ?_
        refine V_iconst hx dX11_comes_33 ?_
        refine V_iload_4 hx dX11_comes_34 ?_
        refine V_imul hx dX11_comes_36 ?_
        refine V_v4Q hx el ed (c_X11_wrong hN hF (by omega) (by omega) (by omega) (by omega)) myX11_wrong mlX11_146 dX11_comes_37 ⟨_, rfl, rfl⟩ (k49 hN) (by decide) (by omega) rfl (by first | exact Nat.le_of_ble_eq_true rfl | simp [vI, vL, vR_cat, Value.category]) (fun r37 => ?_)
        refine V_istore_5 hx (by first | exact nc_I | exact nc_R | exact nc_n) dX11_comes_40 ?_
        have hwr := wrF_1 (I := I) (s := s) (lane := lane) (i := i0) (n := 2 * n)
        have hq := hs0 s (by omega) (by omega)
        refine V_iload_5 hx dX11_comes_42 ?_
        refine V_iconst hx dX11_comes_44 ?_
        refine V_icmp_eq (tgt := 51) hx dX11_comes_45 (by decide) (by omega) (by omega) (fun h45 => ?_) (fun h45 => ?_)
        · refine V_iconst hx dX11_comes_51 ?_
          refine V_istore_6 hx (by first | exact nc_I | exact nc_R | exact nc_n) dX11_comes_52 ?_
          refine loop_inv (α := Unit) 0 n (by omega) (fun i _ => okPairs I s i0 i) (fun i _ => V x z _ N I 0 0 54 [some (vR z 49), some (vI s), some (vI lane), some (vI i0), some (vI n), some (vI (wrF I s lane i0 (2 * n))), some (vI i), none] []) ?_ ?_ () (fun k a b => by omega)
          · rintro _ hok
            refine V_iload_6 hx dX11_comes_54 ?_
            refine V_iload_4 hx dX11_comes_56 ?_
            refine V_icmp_ge (tgt := 106) hx dX11_comes_58 (by decide) (by omega) (by omega) (fun h58 => ?_) (fun h58 => ?_)
            · refine V_aload_0 hx dX11_comes_106 ?_
              refine V_getIx 6 hx hF flX11_96 dX11_comes_107 rfl rfl (k49 hN) (fun r107 => ?_)
              refine V_iload_4 hx dX11_comes_110 ?_
              refine V_iadd hx dX11_comes_112 ?_
              refine V_sipush hx dX11_comes_113 (by decide) ?_
              refine V_icmp_le (tgt := 122) hx dX11_comes_116 (by decide) (by omega) (by omega) (fun h116 => ?_) (fun h116 => ?_)
              · refine V_aload_0 hx dX11_comes_122 ?_
                refine V_getIx 6 hx hF flX11_96 dX11_comes_123 rfl rfl (k49 hN) (fun r123 => ?_)
                refine V_istore_6 hx (by first | exact nc_I | exact nc_R | exact nc_n) dX11_comes_126 ?_
                refine V_iconst hx dX11_comes_128 ?_
                refine V_istore_7 hx (by first | exact nc_I | exact nc_R | exact nc_n) dX11_comes_129 ?_
                refine loop_inv (α := Mm) 0 n (by omega) (fun i M => M = gComesN I s i0 i.toNat ∧ Fx M ∧ P M ∧ M 49 6 = I 49 6 + i ∧ ∀ q : Int, M 60 q = I 60 q) (fun i M => V x z _ N M 0 0 131 [some (vR z 49), some (vI s), some (vI lane), some (vI i0), some (vI n), some (vI (wrF I s lane i0 (2 * n))), some (vI (I 49 6)), some (vI i)] []) ?_ ?_ _ ⟨rfl, hF, hP, by omega, fun _ => rfl⟩
                · rintro M ⟨eM, hF, hPM, hM6, hM60⟩
                  refine V_iload_7 hx dX11_comes_131 ?_
                  refine V_iload_4 hx dX11_comes_133 ?_
                  refine V_icmp_ge (tgt := 173) hx dX11_comes_135 (by decide) (by omega) (by omega) (fun h135 => ?_) (fun h135 => ?_)
                  · refine V_iload_4 hx dX11_comes_173 ?_
                    refine V_if_ne (tgt := 183) hx dX11_comes_175 (by decide) (by omega) (fun h175 => ?_) (fun h175 => ?_)
                    · refine V_iload_6 hx dX11_comes_183 ?_
                      refine V_ireturn hx dX11_comes_185 (by omega) (by omega) ?_
                      exact ⟨_, rfl, by unfold aComes; (repeat (first | rw [cif_t (by first | omega | assumption)] | rw [cif_f (by first | omega | assumption)])); all_goals (exfalso; omega), by unfold gComes2; rw [eM, cif_t ⟨by omega, by omega, hok, by omega⟩], rfl, hF, hPM⟩
                    · refine V_bipush hx dX11_comes_178 (by decide) ?_
                      refine V_goto (tgt := 185) hx dX11_comes_180 (by decide) ?_
                      refine V_ireturn hx dX11_comes_185 (by omega) (by omega) ?_
                      exact ⟨_, rfl, by unfold aComes; (repeat (first | rw [cif_t (by first | omega | assumption)] | rw [cif_f (by first | omega | assumption)])); all_goals (exfalso; omega), by unfold gComes2; rw [eM, cif_t ⟨by omega, by omega, hok, by omega⟩], rfl, hF, hPM⟩
                  · exfalso; omega
                · rintro i M hi0 hi1 ⟨eM, hF, hPM, hM6, hM60⟩ ih
                  have hb := hPb M hPM
                  have hoki := hok i hi0 hi1
                  refine V_iload_7 hx dX11_comes_131 ?_
                  refine V_iload_4 hx dX11_comes_133 ?_
                  refine V_icmp_ge (tgt := 173) hx dX11_comes_135 (by decide) (by omega) (by omega) (fun h135 => ?_) (fun h135 => ?_)
                  · exfalso; omega
                  · refine V_aload_0 hx dX11_comes_138 ?_
                    refine V_aload_0 hx dX11_comes_139 ?_
                    refine V_iload_1 hx dX11_comes_140 ?_
                    refine V_iload_3 hx dX11_comes_141 ?_
                    refine V_iconst hx dX11_comes_142 ?_
                    refine V_iload_7 hx dX11_comes_143 ?_
                    refine V_imul hx dX11_comes_145 ?_
                    refine V_iadd hx dX11_comes_146 ?_
                    refine V_v2Q hx el ed (c_X11_itemOf hN hF (by omega)) myX11_itemOf mlX11_150 dX11_comes_147 ⟨_, rfl, rfl⟩ (k49 hN) (by decide) (by omega) rfl (by first | exact Nat.le_of_ble_eq_true rfl | simp [vI, vL, vR_cat, Value.category]) (fun r147 => ?_)
                    refine V_aload_0 hx dX11_comes_150 ?_
                    refine V_iload_1 hx dX11_comes_151 ?_
                    refine V_iload_3 hx dX11_comes_152 ?_
                    refine V_iconst hx dX11_comes_153 ?_
                    refine V_iload_7 hx dX11_comes_154 ?_
                    refine V_imul hx dX11_comes_156 ?_
                    refine V_iadd hx dX11_comes_157 ?_
                    refine V_iconst hx dX11_comes_158 ?_
                    refine V_iadd hx dX11_comes_159 ?_
                    refine V_v2Q hx el ed (c_X11_itemOf hN hF (by omega)) myX11_itemOf mlX11_150 dX11_comes_160 ⟨_, rfl, rfl⟩ (k49 hN) (by decide) (by omega) rfl (by first | exact Nat.le_of_ble_eq_true rfl | simp [vI, vL, vR_cat, Value.category]) (fun r160 => ?_)
                    refine V_v2I hx el ed (c_X11_comesNow hN hF (by rw [hM60]; omega) (by rw [hM60]; omega) hb.1 hb.2.1 (by omega) hb.2.2.1 hb.2.2.2) myX11_comesNow mlX11_105 dX11_comes_163 ⟨_, rfl, rfl⟩ (k49 hN) (by decide) (by omega) rfl (by first | exact Nat.le_of_ble_eq_true rfl | simp [vI, vL, vR_cat, Value.category]) (fun rv N2 I2 ⟨er, eI2, eN2, hF⟩ => ?_)
                    subst eN2; subst er; subst eI2
                    refine V_popI hx dX11_comes_166 ?_
                    refine V_iinc_7 hx (by first | exact nc_I | exact nc_R | exact nc_n) dX11_comes_167 ?_
                    refine V_goto (tgt := 131) hx dX11_comes_170 (by decide) ?_
                    have hsc := gComes_sc M (M 60 (24 * s + (i0 + 2 * i))) (M 60 (24 * s + (i0 + 2 * i + 1)))
                    refine ih _ ⟨?_, hF, hPs M _ _ hPM (by rw [hM60]; omega) (by rw [hM60]; omega) (by omega), by rw [hsc.1.1]; omega, fun q => by rw [hsc.2.1]; exact hM60 q⟩
                    unfold gComesN
                    rw [fld_s _ _ hi0, hM60, hM60]
                    rw [eM]
                    rfl
              · refine V_bipush hx dX11_comes_119 (by decide) ?_
                refine V_ireturn hx dX11_comes_121 (by omega) (by omega) ?_
                exact ⟨_, rfl, by unfold aComes; (repeat (first | rw [cif_t (by first | omega | assumption)] | rw [cif_f (by first | omega | assumption)])); all_goals (exfalso; omega), by unfold gComes2; rw [cif_f (by omega)], rfl, hF, hP⟩
            · exfalso; omega
          · rintro i _ hi0 hi1 hok ih
            refine V_iload_6 hx dX11_comes_54 ?_
            refine V_iload_4 hx dX11_comes_56 ?_
            refine V_icmp_ge (tgt := 106) hx dX11_comes_58 (by decide) (by omega) (by omega) (fun h58 => ?_) (fun h58 => ?_)
            · exfalso; omega
            · refine V_aload_0 hx dX11_comes_61 ?_
              refine V_iload_1 hx dX11_comes_62 ?_
              refine V_iload_3 hx dX11_comes_63 ?_
              refine V_iconst hx dX11_comes_64 ?_
              refine V_iload_6 hx dX11_comes_65 ?_
              refine V_imul hx dX11_comes_67 ?_
              refine V_iadd hx dX11_comes_68 ?_
              refine V_v2Q hx el ed (c_X11_itemOf hN hF (by omega)) myX11_itemOf mlX11_150 dX11_comes_69 ⟨_, rfl, rfl⟩ (k49 hN) (by decide) (by omega) rfl (by first | exact Nat.le_of_ble_eq_true rfl | simp [vI, vL, vR_cat, Value.category]) (fun r69 => ?_)
              refine V_s1P hx el ed (c_X11_isStream (by omega)) myX11_isStream mlX11_84 dX11_comes_72 (by decide) (by omega) rfl (by first | exact Nat.le_of_ble_eq_true rfl | simp [vI, vL, vR_cat, Value.category]) ?_
              refine V_ifB_eq (tgt := 97) hx dX11_comes_75 (by decide) (fun h75 => ?_) (fun h75 => ?_)
              · refine V_bipush hx dX11_comes_97 (by decide) ?_
                refine V_ireturn hx dX11_comes_99 (by omega) (by omega) ?_
                have hno : ¬ okPairs I s i0 n := fun q => by have := q i hi0 hi1; omega
                exact ⟨_, rfl, by unfold aComes; (repeat (first | rw [cif_t (by first | omega | assumption)] | rw [cif_f (by first | omega | assumption)])); all_goals (exfalso; omega), by unfold gComes2; rw [cif_f (fun q => hno q.2.2.1)], rfl, hF, hP⟩
              · refine V_aload_0 hx dX11_comes_78 ?_
                refine V_iload_1 hx dX11_comes_79 ?_
                refine V_iload_3 hx dX11_comes_80 ?_
                refine V_iconst hx dX11_comes_81 ?_
                refine V_iload_6 hx dX11_comes_82 ?_
                refine V_imul hx dX11_comes_84 ?_
                refine V_iadd hx dX11_comes_85 ?_
                refine V_iconst hx dX11_comes_86 ?_
                refine V_iadd hx dX11_comes_87 ?_
                refine V_v2Q hx el ed (c_X11_itemOf hN hF (by omega)) myX11_itemOf mlX11_150 dX11_comes_88 ⟨_, rfl, rfl⟩ (k49 hN) (by decide) (by omega) rfl (by first | exact Nat.le_of_ble_eq_true rfl | simp [vI, vL, vR_cat, Value.category]) (fun r88 => ?_)
                refine V_s1P hx el ed (c_X11_isLength (by omega)) myX11_isLength mlX11_102 dX11_comes_91 (by decide) (by omega) rfl (by first | exact Nat.le_of_ble_eq_true rfl | simp [vI, vL, vR_cat, Value.category]) ?_
                refine V_ifB_ne (tgt := 100) hx dX11_comes_94 (by decide) (fun h94 => ?_) (fun h94 => ?_)
                · refine V_iinc_6 hx (by first | exact nc_I | exact nc_R | exact nc_n) dX11_comes_100 ?_
                  refine V_goto (tgt := 54) hx dX11_comes_103 (by decide) ?_
                  exact ih () ((okPairs_s hi0).mpr ⟨hok, by omega, by omega⟩)
                · refine V_bipush hx dX11_comes_97 (by decide) ?_
                  refine V_ireturn hx dX11_comes_99 (by omega) (by omega) ?_
                  have hno : ¬ okPairs I s i0 n := fun q => by have := q i hi0 hi1; omega
                  exact ⟨_, rfl, by unfold aComes; (repeat (first | rw [cif_t (by first | omega | assumption)] | rw [cif_f (by first | omega | assumption)])); all_goals (exfalso; omega), by unfold gComes2; rw [cif_f (fun q => hno q.2.2.1)], rfl, hF, hP⟩
        · refine V_iload_5 hx dX11_comes_48 ?_
          refine V_ireturn hx dX11_comes_50 (by omega) (by omega) ?_
          exact ⟨_, rfl, by unfold aComes; (repeat (first | rw [cif_t (by first | omega | assumption)] | rw [cif_f (by first | omega | assumption)])); all_goals (exfalso; omega), by unfold gComes2; rw [cif_f (by omega)], rfl, hF, hP⟩
      · refine V_iconst hx dX11_comes_27 ?_
        refine V_ireturn hx dX11_comes_28 (by omega) (by omega) ?_
        exact ⟨_, rfl, by unfold aComes; (repeat (first | rw [cif_t (by first | omega | assumption)] | rw [cif_f (by first | omega | assumption)])); all_goals (exfalso; omega), by unfold gComes2; rw [cif_f (by omega)], rfl, hF, hP⟩

