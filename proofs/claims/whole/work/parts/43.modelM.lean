set_option maxRecDepth 8000 in
theorem c_X11_heaps {l : Launch} {d : Dd} {z : Nat} {N : Int} {I : Mm} {s lane i0 n k : Int} (hN : 67 ≤ N) (hF : Fx I) (hs0 : ∀ q : Int, 0 ≤ q → q ≤ 3 → 0 ≤ I 59 q ∧ I 59 q ≤ 24) (hs : -2147483648 ≤ s ∧ s ≤ 2147483647) (hlane : -2147483648 ≤ lane ∧ lane ≤ 2147483647) (hi0 : -2147483648 ≤ i0 ∧ i0 ≤ 2147483647) (hn : -2147483648 ≤ n ∧ n ≤ 2147483647) (hk : -2147483648 ≤ k ∧ k ≤ 2147483647) : Cn l d z yX11_heaps cX11_heaps 9 (some .int) 2 51 0 0 [vR z 49, vI s, vI lane, vI i0, vI n, vI k] N I (pI (fun r N' I' => N' = N ∧ Fx I' ∧ r = aHeaps I s lane i0 n k ∧ ∀ a q : Int, a ≠ 61 → I' a q = I a q)) := by
  refine Cn.ofA [(vR z 49, false), (vI s, false), (vI lane, false), (vI i0, false), (vI n, false), (vI k, false)] [some (vR z 49), some (vI s), some (vI lane), some (vI i0), some (vI n), some (vI k), none, none, none] RX11 (by decide) rfl ⟨cR z 49, rfl, rfl, rfl, rfl, rfl, trivial⟩ (Nat.le_of_ble_eq_true rfl) rfl (fun x ed el hx hini => ?_)
  have J54 : ((0 ≤ s ∧ s ≤ 3) ∧ (0 ≤ lane ∧ lane ≤ 2) ∧ (1 ≤ n ∧ n ≤ 24) ∧ (k = 1 ∨ k = 2 ∨ k = 4 ∨ k = 8)) → V x z (pI (fun r N' I' => N' = N ∧ Fx I' ∧ r = aHeaps I s lane i0 n k ∧ ∀ a q : Int, a ≠ 61 → I' a q = I a q)) N I 0 0 54 [some (vR z 49), some (vI s), some (vI lane), some (vI i0), some (vI n), some (vI k), none, none, none] [] := by
    intro hc
    have hkb : ∀ h : Int, 0 ≤ h → h < k → (0 ≤ 32 / k * h ∧ 32 / k * h ≤ 32) ∧ (0 ≤ 32 / k * (h + 1) ∧ 32 / k * (h + 1) ≤ 32) := by
      rcases hc.2.2.2 with h | h | h | h <;> (subst h; intro h h0 h1; omega)
    refine V_aload_0 hx dX11_heaps_54 ?_
    refine V_iload_1 hx dX11_heaps_55 ?_
    refine V_iload_2 hx dX11_heaps_56 ?_
    refine V_iload_3 hx dX11_heaps_57 ?_
    refine V_iload_4 hx dX11_heaps_58 ?_
    refine V_v4I hx el ed (c_X11_ranks hN hF hs0 (by omega) (by omega) (by omega) (by omega)) myX11_ranks mlX11_233 dX11_heaps_60 ⟨_, rfl, rfl⟩ (k49 hN) (by decide) (by omega) rfl (by first | exact Nat.le_of_ble_eq_true rfl | simp [vI, vL, vR_cat, Value.category]) (fun rr N1 I1 ⟨eN1, hF, er, hfr, hgv, hr1, hr2⟩ => ?_)
    subst eN1
    refine V_istore_6 hx (by first | exact nc_I | exact nc_R | exact nc_n) dX11_heaps_63 ?_
    refine V_iload_6 hx dX11_heaps_65 ?_
    refine V_iconst hx dX11_heaps_67 ?_
    refine V_icmp_eq (tgt := 74) hx dX11_heaps_68 (by decide) (by omega) (by omega) (fun h68 => ?_) (fun h68 => ?_)
    · refine V_iconst hx dX11_heaps_74 ?_
      refine V_istore_7 hx (by first | exact nc_I | exact nc_R | exact nc_n) dX11_heaps_75 ?_
      refine V_iconst hx dX11_heaps_77 ?_
      refine V_istore_8 hx (by first | exact nc_I | exact nc_R | exact nc_n) dX11_heaps_78 ?_
      rw [show rr = 1 by omega]
      refine loop_fld (α := Int) (fun acc i => acc + trn (I1 61) n (32 / k * i) (32 / k * (i + 1) - 1)) 0 k (by omega) (fun i acc => V x z _ _ I1 0 0 80 [some (vR z 49), some (vI s), some (vI lane), some (vI i0), some (vI n), some (vI k), some (vI 1), some (vI acc), some (vI i)] []) ?_ ?_
      · refine V_iload_8 hx dX11_heaps_80 ?_
        refine V_iload_5 hx dX11_heaps_82 ?_
        refine V_icmp_ge (tgt := 124) hx dX11_heaps_84 (by decide) (by omega) (by omega) (fun h84 => ?_) (fun h84 => ?_)
        · refine V_iload_7 hx dX11_heaps_124 ?_
          refine V_ireturn hx dX11_heaps_126 (by omega) (by omega) ?_
          refine ⟨_, rfl, rfl, hF, ?_, hfr⟩
          unfold aHeaps
          rw [cif_t hc, cif_t (by omega)]
          exact fld_cong fun a h h0 h1 => by rw [trn_cong (hgv (by omega)).2]
        · exfalso; omega
      · intro i hi0 hi1 ih
        have hkk := hkb i hi0 hi1
        generalize fld _ _ _ = acc at ih ⊢
        refine V_iload_8 hx dX11_heaps_80 ?_
        refine V_iload_5 hx dX11_heaps_82 ?_
        refine V_icmp_ge (tgt := 124) hx dX11_heaps_84 (by decide) (by omega) (by omega) (fun h84 => ?_) (fun h84 => ?_)
        · exfalso; omega
        · refine V_iload_7 hx dX11_heaps_87 ?_
          refine V_aload_0 hx dX11_heaps_89 ?_
          refine V_iload_4 hx dX11_heaps_90 ?_
          refine V_bipush hx dX11_heaps_92 (by decide) ?_
          refine V_iload_5 hx dX11_heaps_94 ?_
          refine V_idiv hx dX11_heaps_96 (by omega) (by omega) ?_
          refine V_iload_8 hx dX11_heaps_97 ?_
          refine V_imul hx dX11_heaps_99 ?_
          refine V_bipush hx dX11_heaps_100 (by decide) ?_
          refine V_iload_5 hx dX11_heaps_102 ?_
          refine V_idiv hx dX11_heaps_104 (by omega) (by omega) ?_
          refine V_iload_8 hx dX11_heaps_105 ?_
          refine V_iconst hx dX11_heaps_107 ?_
          refine V_iadd hx dX11_heaps_108 ?_
          refine V_imul hx dX11_heaps_109 ?_
          refine V_iconst hx dX11_heaps_110 ?_
          refine V_isub hx dX11_heaps_111 ?_
          refine V_v3Q hx el ed (c_X11_turned hN hF (by omega) (by omega) (by omega)) myX11_turned mlX11_236 dX11_heaps_112 ⟨_, rfl, rfl⟩ (k49 hN) (by decide) (by omega) rfl (by first | exact Nat.le_of_ble_eq_true rfl | simp [vI, vL, vR_cat, Value.category]) (fun r112 => ?_)
          skip
          refine V_iadd hx dX11_heaps_115 ?_
          refine V_istore_7 hx (by first | exact nc_I | exact nc_R | exact nc_n) dX11_heaps_116 ?_
          refine V_iinc_8 hx (by first | exact nc_I | exact nc_R | exact nc_n) dX11_heaps_118 ?_
          refine V_goto (tgt := 80) hx dX11_heaps_121 (by decide) ?_
          first | exact ih | (rw [cif_t (by first | omega | simp_all)] at ih; exact ih) | (rw [cif_f (by first | omega | simp_all)] at ih; exact ih)
    · refine V_iload_6 hx dX11_heaps_71 ?_
      refine V_ireturn hx dX11_heaps_73 (by omega) (by omega) ?_
      exact ⟨_, rfl, rfl, hF, by unfold aHeaps; rw [cif_t hc, cif_f (by omega)]; exact er, hfr⟩
  refine V_iload_1 hx dX11_heaps_0 ?_
  refine V_s1P hx el ed (c_X11_isSheet (by omega)) myX11_isSheet mlX11_140 dX11_heaps_1 (by decide) (by omega) rfl (by first | exact Nat.le_of_ble_eq_true rfl | simp [vI, vL, vR_cat, Value.category]) ?_
  refine V_ifB_eq (tgt := 52) hx dX11_heaps_4 (by decide) (fun h4 => ?_) (fun h4 => ?_)
  · refine V_iconst hx dX11_heaps_52 ?_
    refine V_ireturn hx dX11_heaps_53 (by omega) (by omega) ?_
    exact ⟨_, rfl, rfl, hF, by unfold aHeaps; rw [cif_f (by omega)], fun _ _ _ => rfl⟩
  · refine V_iload_2 hx dX11_heaps_7 ?_
    refine V_s1P hx el ed (c_X11_isLane (by omega)) myX11_isLane mlX11_143 dX11_heaps_8 (by decide) (by omega) rfl (by first | exact Nat.le_of_ble_eq_true rfl | simp [vI, vL, vR_cat, Value.category]) ?_
    refine V_ifB_eq (tgt := 52) hx dX11_heaps_11 (by decide) (fun h11 => ?_) (fun h11 => ?_)
    · refine V_iconst hx dX11_heaps_52 ?_
      refine V_ireturn hx dX11_heaps_53 (by omega) (by omega) ?_
      exact ⟨_, rfl, rfl, hF, by unfold aHeaps; rw [cif_f (by omega)], fun _ _ _ => rfl⟩
    · refine V_iload_4 hx dX11_heaps_14 ?_
      refine V_i2l hx dX11_heaps_16 (by omega) ?_
      refine V_lconst (v := 1) hx dX11_heaps_17 (by decide) ?_
      refine V_ldc2 (v := 24) hx kcX11_197 dX11_heaps_18 (by decide) ?_
      refine V_s3P hx el ed (c_X11_in (by omega) (by omega) (by omega)) myX11_in mlX11_70 dX11_heaps_21 (by decide) (by omega) rfl (by first | exact Nat.le_of_ble_eq_true rfl | simp [vI, vL, vR_cat, Value.category]) ?_
      refine V_ifB_eq (tgt := 52) hx dX11_heaps_24 (by decide) (fun h24 => ?_) (fun h24 => ?_)
      · refine V_iconst hx dX11_heaps_52 ?_
        refine V_ireturn hx dX11_heaps_53 (by omega) (by omega) ?_
        exact ⟨_, rfl, rfl, hF, by unfold aHeaps; rw [cif_f (by omega)], fun _ _ _ => rfl⟩
      · refine V_iload_5 hx dX11_heaps_27 ?_
        refine V_iconst hx dX11_heaps_29 ?_
        refine V_icmp_eq (tgt := 54) hx dX11_heaps_30 (by decide) (by omega) (by omega) (fun h30 => ?_) (fun h30 => ?_)
        · exact J54 (by omega)
        · refine V_iload_5 hx dX11_heaps_33 ?_
          refine V_iconst hx dX11_heaps_35 ?_
          refine V_icmp_eq (tgt := 54) hx dX11_heaps_36 (by decide) (by omega) (by omega) (fun h36 => ?_) (fun h36 => ?_)
          · exact J54 (by omega)
          · refine V_iload_5 hx dX11_heaps_39 ?_
            refine V_iconst hx dX11_heaps_41 ?_
            refine V_icmp_eq (tgt := 54) hx dX11_heaps_42 (by decide) (by omega) (by omega) (fun h42 => ?_) (fun h42 => ?_)
            · exact J54 (by omega)
            · refine V_iload_5 hx dX11_heaps_45 ?_
              refine V_bipush hx dX11_heaps_47 (by decide) ?_
              refine V_icmp_eq (tgt := 54) hx dX11_heaps_49 (by decide) (by omega) (by omega) (fun h49 => ?_) (fun h49 => ?_)
              · exact J54 (by omega)
              · refine V_iconst hx dX11_heaps_52 ?_
                refine V_ireturn hx dX11_heaps_53 (by omega) (by omega) ?_
                exact ⟨_, rfl, rfl, hF, by unfold aHeaps; rw [cif_f (by omega)], fun _ _ _ => rfl⟩

theorem cutv_cong {g h : Int → Int} {n : Int} (hg : ∀ q : Int, 0 ≤ q → q < n → g q = h q) : ∀ (m : Nat) (t : Int), cutv g n m t = cutv h n m t
  | 0, _ => rfl
  | m + 1, t => by
    rw [cutv, cutv, trn_cong hg]
    congr 1
    refine fld_cong fun b j j0 j1 => ?_
    rw [cutv_cong hg m, trn_cong hg]

set_option maxRecDepth 8000 in
theorem c_X11_cut {l : Launch} {d : Dd} {z : Nat} {N : Int} {I : Mm} {s lane i0 n k : Int} (hN : 67 ≤ N) (hF : Fx I) (hs0 : ∀ q : Int, 0 ≤ q → q ≤ 3 → 0 ≤ I 59 q ∧ I 59 q ≤ 24) (hs : -2147483648 ≤ s ∧ s ≤ 2147483647) (hlane : -2147483648 ≤ lane ∧ lane ≤ 2147483647) (hi0 : -2147483648 ≤ i0 ∧ i0 ≤ 2147483647) (hn : -2147483648 ≤ n ∧ n ≤ 2147483647) (hk : -2147483648 ≤ k ∧ k ≤ 2147483647) : Cn l d z yX11_cut cX11_cut 12 (some .int) 2 51 0 0 [vR z 49, vI s, vI lane, vI i0, vI n, vI k] N I (pI (fun r N' I' => N' = N ∧ Fx I' ∧ r = aCut I s lane i0 n k ∧ ∀ a q : Int, a ≠ 61 → a ≠ 64 → I' a q = I a q)) := by
  refine Cn.ofA [(vR z 49, false), (vI s, false), (vI lane, false), (vI i0, false), (vI n, false), (vI k, false)] [some (vR z 49), some (vI s), some (vI lane), some (vI i0), some (vI n), some (vI k), none, none, none, none, none, none] RX11 (by decide) rfl ⟨cR z 49, rfl, rfl, rfl, rfl, rfl, trivial⟩ (Nat.le_of_ble_eq_true rfl) rfl (fun x ed el hx hini => ?_)
  refine V_iload_1 hx dX11_cut_0 ?_
  refine V_s1P hx el ed (c_X11_isSheet (by omega)) myX11_isSheet mlX11_140 dX11_cut_1 (by decide) (by omega) rfl (by first | exact Nat.le_of_ble_eq_true rfl | simp [vI, vL, vR_cat, Value.category]) ?_
  refine V_ifB_eq (tgt := 40) hx dX11_cut_4 (by decide) (fun h4 => ?_) (fun h4 => ?_)
  · refine V_iconst hx dX11_cut_40 ?_
    refine V_ireturn hx dX11_cut_41 (by omega) (by omega) ?_
    exact ⟨_, rfl, rfl, hF, by unfold aCut; rw [cif_f (by omega)], fun _ _ _ _ => rfl⟩
  · refine V_iload_2 hx dX11_cut_7 ?_
    refine V_s1P hx el ed (c_X11_isLane (by omega)) myX11_isLane mlX11_143 dX11_cut_8 (by decide) (by omega) rfl (by first | exact Nat.le_of_ble_eq_true rfl | simp [vI, vL, vR_cat, Value.category]) ?_
    refine V_ifB_eq (tgt := 40) hx dX11_cut_11 (by decide) (fun h11 => ?_) (fun h11 => ?_)
    · refine V_iconst hx dX11_cut_40 ?_
      refine V_ireturn hx dX11_cut_41 (by omega) (by omega) ?_
      exact ⟨_, rfl, rfl, hF, by unfold aCut; rw [cif_f (by omega)], fun _ _ _ _ => rfl⟩
    · refine V_iload_4 hx dX11_cut_14 ?_
      refine V_i2l hx dX11_cut_16 (by omega) ?_
      refine V_lconst (v := 1) hx dX11_cut_17 (by decide) ?_
      refine V_ldc2 (v := 24) hx kcX11_197 dX11_cut_18 (by decide) ?_
      refine V_s3P hx el ed (c_X11_in (by omega) (by omega) (by omega)) myX11_in mlX11_70 dX11_cut_21 (by decide) (by omega) rfl (by first | exact Nat.le_of_ble_eq_true rfl | simp [vI, vL, vR_cat, Value.category]) ?_
      refine V_ifB_eq (tgt := 40) hx dX11_cut_24 (by decide) (fun h24 => ?_) (fun h24 => ?_)
      · refine V_iconst hx dX11_cut_40 ?_
        refine V_ireturn hx dX11_cut_41 (by omega) (by omega) ?_
        exact ⟨_, rfl, rfl, hF, by unfold aCut; rw [cif_f (by omega)], fun _ _ _ _ => rfl⟩
      · refine V_iload_5 hx dX11_cut_27 ?_
        refine V_i2l hx dX11_cut_29 (by omega) ?_
        refine V_lconst (v := 1) hx dX11_cut_30 (by decide) ?_
        refine V_ldc2 (v := 8) hx kcX11_155 dX11_cut_31 (by decide) ?_
        refine V_s3P hx el ed (c_X11_in (by omega) (by omega) (by omega)) myX11_in mlX11_70 dX11_cut_34 (by decide) (by omega) rfl (by first | exact Nat.le_of_ble_eq_true rfl | simp [vI, vL, vR_cat, Value.category]) ?_
        refine V_ifB_ne (tgt := 42) hx dX11_cut_37 (by decide) (fun h37 => ?_) (fun h37 => ?_)
        · refine V_aload_0 hx dX11_cut_42 ?_
          refine V_iload_1 hx dX11_cut_43 ?_
          refine V_iload_2 hx dX11_cut_44 ?_
          refine V_iload_3 hx dX11_cut_45 ?_
          refine V_iload_4 hx dX11_cut_46 ?_
          refine V_v4I hx el ed (c_X11_ranks hN hF hs0 (by omega) (by omega) (by omega) (by omega)) myX11_ranks mlX11_233 dX11_cut_48 ⟨_, rfl, rfl⟩ (k49 hN) (by decide) (by omega) rfl (by first | exact Nat.le_of_ble_eq_true rfl | simp [vI, vL, vR_cat, Value.category]) (fun rr N1 I1 ⟨eN1, hF, er, hfr, hgv, hr1, hr2⟩ => ?_)
          subst eN1
          refine V_istore_6 hx (by first | exact nc_I | exact nc_R | exact nc_n) dX11_cut_51 ?_
          refine V_iload_6 hx dX11_cut_53 ?_
          refine V_iconst hx dX11_cut_55 ?_
          refine V_icmp_eq (tgt := 62) hx dX11_cut_56 (by decide) (by omega) (by omega) (fun h56 => ?_) (fun h56 => ?_)
          · refine V_iconst hx dX11_cut_62 ?_
            refine V_istore_7 hx (by first | exact nc_I | exact nc_R | exact nc_n) dX11_cut_63 ?_
            rw [show rr = 1 by omega]
            refine loop_inv (α := Mm) 1 (k + 1) (by omega) (fun h M => Fx M ∧ (∀ a q : Int, a ≠ 64 → M a q = I1 a q) ∧ ∀ h2 t2 : Int, 1 ≤ h2 → h2 < h → 1 ≤ t2 → t2 ≤ 32 → M 64 (33 * h2 + t2) = cutv (I1 61) n h2.toNat t2) (fun h M => V x z _ _ M 0 0 65 [some (vR z 49), some (vI s), some (vI lane), some (vI i0), some (vI n), some (vI k), some (vI 1), some (vI h), none, none, none, none] []) ?_ ?_ _ ⟨hF, fun _ _ _ => rfl, fun h2 t2 a b => by omega⟩
            · rintro M ⟨hF, hM, hV⟩
              refine V_iload_7 hx dX11_cut_65 ?_
              refine V_iload_5 hx dX11_cut_67 ?_
              refine V_icmp_gt (tgt := 190) hx dX11_cut_69 (by decide) (by omega) (by omega) (fun h69 => ?_) (fun h69 => ?_)
              · refine V_aload_0 hx dX11_cut_190 ?_
                refine V_getRe hx flX11_52 dX11_cut_191 rfl (k49 hN) (hF.1 49 23 64 rfl) ?_
                refine V_bipush hx dX11_cut_194 (by decide) ?_
                refine V_iload_5 hx dX11_cut_196 ?_
                refine V_imul hx dX11_cut_198 ?_
                refine V_bipush hx dX11_cut_199 (by decide) ?_
                refine V_iadd hx dX11_cut_201 ?_
                refine V_ialoadx hx hF dX11_cut_202 (k64 hN) (by decide) (by omega) (fun r202 => ?_)
                refine V_ireturn hx dX11_cut_203 (by omega) (by omega) ?_
                refine ⟨_, rfl, rfl, hF, ?_, fun a q h1 h2 => by rw [hM a q h2]; exact hfr a q h1⟩
                unfold aCut
                rw [cif_t (by omega), cif_t (by omega), hV k 32 (by omega) (by omega) (by omega) (by omega)]
                exact cutv_cong (hgv (by omega)).2 _ _
              · exfalso; omega
            · rintro h M0 hh0 hh1 ⟨hF, hM0, hV0⟩ ih0
              refine V_iload_7 hx dX11_cut_65 ?_
              refine V_iload_5 hx dX11_cut_67 ?_
              refine V_icmp_gt (tgt := 190) hx dX11_cut_69 (by decide) (by omega) (by omega) (fun h69 => ?_) (fun h69 => ?_)
              · exfalso; omega
              · refine V_iconst hx dX11_cut_72 ?_
                refine V_istore_8 hx (by first | exact nc_I | exact nc_R | exact nc_n) dX11_cut_73 ?_
                refine loop_inv (α := Mm) 1 33 (by decide) (fun t M => Fx M ∧ (∀ a q : Int, a ≠ 64 → M a q = I1 a q) ∧ (∀ h2 t2 : Int, 1 ≤ h2 → h2 < h → 1 ≤ t2 → t2 ≤ 32 → M 64 (33 * h2 + t2) = cutv (I1 61) n h2.toNat t2) ∧ ∀ t2 : Int, 1 ≤ t2 → t2 < t → M 64 (33 * h + t2) = cutv (I1 61) n h.toNat t2) (fun t M => V x z _ _ M 0 0 75 [some (vR z 49), some (vI s), some (vI lane), some (vI i0), some (vI n), some (vI k), some (vI 1), some (vI h), some (vI t), none, none, none] []) ?_ ?_ _ ⟨hF, hM0, hV0, fun t2 a b => by omega⟩
                · rintro M ⟨hF, hM, hV, hC⟩
                  refine V_iload_8 hx dX11_cut_75 ?_
                  refine V_bipush hx dX11_cut_77 (by decide) ?_
                  refine V_icmp_gt (tgt := 184) hx dX11_cut_79 (by decide) (by omega) (by omega) (fun h79 => ?_) (fun h79 => ?_)
                  · refine V_iinc_7 hx (by first | exact nc_I | exact nc_R | exact nc_n) dX11_cut_184 ?_
                    refine V_goto (tgt := 65) hx dX11_cut_187 (by decide) ?_
                    refine V_drop_8 ?_
                    refine ih0 _ ⟨hF, hM, fun h2 t2 a b c d => ?_⟩
                    by_cases hq : h2 = h
                    · subst hq; exact hC t2 c (by omega)
                    · exact hV h2 t2 a (by omega) c d
                  · exfalso; omega
                · rintro t M ht0 ht1 ⟨hF, hM, hV, hC⟩ ih1
                  have hM61 : M 61 = I1 61 := funext fun q => hM 61 q (by decide)
                  have h600 := trn_b (g := M 61) (n := n) (f := 0) (t := t - 1) (by omega)
                  obtain ⟨hm, hhm⟩ : ∃ hm : Nat, h.toNat = hm + 1 := ⟨h.toNat - 1, by omega⟩
                  have REST : ∀ b : Int, 0 ≤ b → b ≤ 600 → b = cutv (I1 61) n h.toNat t → ∀ fr0 : Option Value, V x z (pI (fun r N' I' => N' = N1 ∧ Fx I' ∧ r = aCut I s lane i0 n k ∧ ∀ a q : Int, a ≠ 61 → a ≠ 64 → I' a q = I a q)) N1 M 0 0 163 [some (vR z 49), some (vI s), some (vI lane), some (vI i0), some (vI n), some (vI k), some (vI 1), some (vI h), some (vI t), some (vI b), fr0, none] [] := by
                    intro b b0 b1 eb fr0
                    refine V_aload_0 hx dX11_cut_163 ?_
                    refine V_getRe hx flX11_52 dX11_cut_164 rfl (k49 hN) (hF.1 49 23 64 rfl) ?_
                    refine V_bipush hx dX11_cut_167 (by decide) ?_
                    refine V_iload_7 hx dX11_cut_169 ?_
                    refine V_imul hx dX11_cut_171 ?_
                    refine V_iload_8 hx dX11_cut_172 ?_
                    refine V_iadd hx dX11_cut_174 ?_
                    refine V_iload_9 hx dX11_cut_175 ?_
                    refine V_iastorex hx hF dX11_cut_177 (k64 hN) (by decide) (by omega) (fx_none rfl _) (by omega) (Or.inl (by decide)) (fun hF => ?_)
                    refine V_iinc_8 hx (by first | exact nc_I | exact nc_R | exact nc_n) dX11_cut_178 ?_
                    refine V_goto (tgt := 75) hx dX11_cut_181 (by decide) ?_
                    refine V_drop_9 ?_
                    refine V_drop_10 ?_
                    refine ih1 _ ⟨hF, fun a q ha => by rw [up_c ha]; exact hM a q ha, fun h2 t2 a b c d => by rw [up_k (by omega)]; exact hV h2 t2 a b c d, fun t2 a b => ?_⟩
                    by_cases hq : t2 = t
                    · subst hq; rw [up_s]; exact eb
                    · rw [up_k (by omega)]; exact hC t2 a (by omega)
                  refine V_iload_8 hx dX11_cut_75 ?_
                  refine V_bipush hx dX11_cut_77 (by decide) ?_
                  refine V_icmp_gt (tgt := 184) hx dX11_cut_79 (by decide) (by omega) (by omega) (fun h79 => ?_) (fun h79 => ?_)
                  · exfalso; omega
                  · refine V_aload_0 hx dX11_cut_82 ?_
                    refine V_iload_4 hx dX11_cut_83 ?_
                    refine V_iconst hx dX11_cut_85 ?_
                    refine V_iload_8 hx dX11_cut_86 ?_
                    refine V_iconst hx dX11_cut_88 ?_
                    refine V_isub hx dX11_cut_89 ?_
                    refine V_v3Q hx el ed (c_X11_turned hN hF (by omega) (by omega) (by omega)) myX11_turned mlX11_236 dX11_cut_90 ⟨_, rfl, rfl⟩ (k49 hN) (by decide) (by omega) rfl (by first | exact Nat.le_of_ble_eq_true rfl | simp [vI, vL, vR_cat, Value.category]) (fun r90 => ?_)
                    refine V_istore_9 hx (by first | exact nc_I | exact nc_R | exact nc_n) dX11_cut_93 ?_
                    refine V_iconst hx dX11_cut_95 ?_
                    refine V_istore_10 hx (by first | exact nc_I | exact nc_R | exact nc_n) dX11_cut_96 ?_
                    by_cases hh : hm = 0
                    · refine V_iload_10 hx dX11_cut_98 ?_
                      refine V_iload_8 hx dX11_cut_100 ?_
                      refine V_icmp_ge (tgt := 163) hx dX11_cut_102 (by decide) (by omega) (by omega) (fun h102 => ?_) (fun h102 => ?_)
                      · exact REST _ (by omega) (by omega) (by rw [hhm, cutv, cif_t hh, hM61]) _
                      · refine V_iload_7 hx dX11_cut_105 ?_
                        refine V_iconst hx dX11_cut_107 ?_
                        refine V_icmp_le (tgt := 163) hx dX11_cut_108 (by decide) (by omega) (by omega) (fun h108 => ?_) (fun h108 => ?_)
                        · exact REST _ (by omega) (by omega) (by rw [hhm, cutv, cif_t hh, hM61]) _
                        · exfalso; omega
                    · refine loop_inv (α := Int) 1 t (by omega) (fun j b => b = fld (fun b j => cif (cutv (I1 61) n hm (j + 1) + trn (I1 61) n (j + 1) (t - 1) < b) (cutv (I1 61) n hm (j + 1) + trn (I1 61) n (j + 1) (t - 1)) b) (trn (I1 61) n 0 (t - 1)) (j - 1).toNat ∧ 0 ≤ b ∧ b ≤ 600) (fun j b => V x z _ _ M 0 0 98 [some (vR z 49), some (vI s), some (vI lane), some (vI i0), some (vI n), some (vI k), some (vI 1), some (vI h), some (vI t), some (vI b), some (vI j), none] []) ?_ ?_ _ ⟨by rw [hM61]; rfl, by omega, by omega⟩
                      · rintro b ⟨eb, b0, b1⟩
                        refine V_iload_10 hx dX11_cut_98 ?_
                        refine V_iload_8 hx dX11_cut_100 ?_
                        refine V_icmp_ge (tgt := 163) hx dX11_cut_102 (by decide) (by omega) (by omega) (fun h102 => ?_) (fun h102 => ?_)
                        · exact REST b (by omega) (by omega) (by rw [eb, hhm, cutv, cif_f hh]) _
                        · exfalso; omega
                      · rintro j b hj0 hj1 ⟨eb, b0, b1⟩ ih2
                        have hlv := hV (h - 1) j (by omega) (by omega) hj0 (by omega)
                        rw [show (h - 1).toNat = hm by omega] at hlv
                        have hcb := cutv_b (g := I1 61) (n := n) (by omega) hm j
                        refine V_iload_10 hx dX11_cut_98 ?_
                        refine V_iload_8 hx dX11_cut_100 ?_
                        refine V_icmp_ge (tgt := 163) hx dX11_cut_102 (by decide) (by omega) (by omega) (fun h102 => ?_) (fun h102 => ?_)
                        · exfalso; omega
                        · refine V_iload_7 hx dX11_cut_105 ?_
                          refine V_iconst hx dX11_cut_107 ?_
                          refine V_icmp_le (tgt := 163) hx dX11_cut_108 (by decide) (by omega) (by omega) (fun h108 => ?_) (fun h108 => ?_)
                          · exfalso; omega
                          · refine V_aload_0 hx dX11_cut_111 ?_
                            refine V_getRe hx flX11_52 dX11_cut_112 rfl (k49 hN) (hF.1 49 23 64 rfl) ?_
                            refine V_bipush hx dX11_cut_115 (by decide) ?_
                            refine V_iload_7 hx dX11_cut_117 ?_
                            refine V_iconst hx dX11_cut_119 ?_
                            refine V_isub hx dX11_cut_120 ?_
                            refine V_imul hx dX11_cut_121 ?_
                            refine V_iload_10 hx dX11_cut_122 ?_
                            refine V_iadd hx dX11_cut_124 ?_
                            refine V_ialoadx hx hF dX11_cut_125 (k64 hN) (by decide) (by omega) (fun r125 => ?_)
                            refine V_aload_0 hx dX11_cut_126 ?_
                            refine V_iload_4 hx dX11_cut_127 ?_
                            refine V_iload_10 hx dX11_cut_129 ?_
                            refine V_iload_8 hx dX11_cut_131 ?_
                            refine V_iconst hx dX11_cut_133 ?_
                            refine V_isub hx dX11_cut_134 ?_
                            refine V_v3Q hx el ed (c_X11_turned hN hF (by omega) (by omega) (by omega)) myX11_turned mlX11_236 dX11_cut_135 ⟨_, rfl, rfl⟩ (k49 hN) (by decide) (by omega) rfl (by first | exact Nat.le_of_ble_eq_true rfl | simp [vI, vL, vR_cat, Value.category]) (fun r135 => ?_)
                            have h601 := trn_b (g := M 61) (n := n) (f := j) (t := t - 1) (by omega)
                            refine V_iadd hx dX11_cut_138 ?_
                            refine V_istore_11 hx (by first | exact nc_I | exact nc_R | exact nc_n) dX11_cut_139 ?_
                            refine V_iload_11 hx dX11_cut_141 ?_
                            refine V_iload_9 hx dX11_cut_143 ?_
                            refine V_icmp_ge (tgt := 153) hx dX11_cut_145 (by decide) (by omega) (by omega) (fun h145 => ?_) (fun h145 => ?_)
                            · refine V_iload_9 hx dX11_cut_153 ?_
                              refine V_istore_9 hx (by first | exact nc_I | exact nc_R | exact nc_n) dX11_cut_155 ?_
                              refine V_iinc_10 hx (by first | exact nc_I | exact nc_R | exact nc_n) dX11_cut_157 ?_
                              refine V_goto (tgt := 98) hx dX11_cut_160 (by decide) ?_
                              refine V_drop_11 ?_
                              refine ih2 _ ⟨?_, by omega, by omega⟩
                              rw [show j + 1 - 1 = j - 1 + 1 by omega, fld_s _ _ (by omega), ← eb, show j - 1 + 1 = j by omega]
                              rw [hlv] at *
                              rw [hM61] at *
                              first | rw [cif_t (by omega)] | rw [cif_f (by omega)]
                            · refine V_iload_11 hx dX11_cut_148 ?_
                              refine V_goto (tgt := 155) hx dX11_cut_150 (by decide) ?_
                              refine V_istore_9 hx (by first | exact nc_I | exact nc_R | exact nc_n) dX11_cut_155 ?_
                              refine V_iinc_10 hx (by first | exact nc_I | exact nc_R | exact nc_n) dX11_cut_157 ?_
                              refine V_goto (tgt := 98) hx dX11_cut_160 (by decide) ?_
                              refine V_drop_11 ?_
                              refine ih2 _ ⟨?_, by omega, by omega⟩
                              rw [show j + 1 - 1 = j - 1 + 1 by omega, fld_s _ _ (by omega), ← eb, show j - 1 + 1 = j by omega]
                              rw [hlv] at *
                              rw [hM61] at *
                              first | rw [cif_t (by omega)] | rw [cif_f (by omega)]
          · refine V_iload_6 hx dX11_cut_59 ?_
            refine V_ireturn hx dX11_cut_61 (by omega) (by omega) ?_
            exact ⟨_, rfl, rfl, hF, by unfold aCut; rw [cif_t (by omega), cif_f (by omega)]; exact er, fun a q h1 _ => hfr a q h1⟩
        · refine V_iconst hx dX11_cut_40 ?_
          refine V_ireturn hx dX11_cut_41 (by omega) (by omega) ?_
          exact ⟨_, rfl, rfl, hF, by unfold aCut; rw [cif_f (by omega)], fun _ _ _ _ => rfl⟩

