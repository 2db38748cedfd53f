theorem c_lnF {l : Launch} {d : Dd} {z : Nat} {N : Int} {I M : Mm} {r : Int} (hN : 67 ≤ N) (hF : Fx M) (hP : PkC I N) (hW : PkW I) (hM : ∀ a q : Int, a ≠ 24 → M a q = I a q) (hz : I 22 1 ≤ 6) (hr : 0 ≤ r ∧ r < 64) : Cn l d z yX2_lengthOf cX2_lengthOf 4 (some .int) 0 0 0 0 [vR z 22, vI r] N M (pv (vI (lnF I r (I 22 1).toNat)) N M) := by
  have e22 := hM 22 1 (by decide)
  have h := c_X2_lengthOf (l := l) (d := d) (z := z) hN hF (PkC_f hP hM) (PkW_f hP hW hM) (by omega) hr
  rw [e22, lnF_f hP hM r (by have := hP.1; omega)] at h
  exact h.weaken (fun v N' I' q => ⟨q.1, q.2.1, q.2.2.1⟩)
theorem c_ltF {l : Launch} {d : Dd} {z : Nat} {N : Int} {I M : Mm} {s i : Int} (hN : 67 ≤ N) (hF : Fx M) (hP : PkC I N) (hW : PkW I) (hM : ∀ a q : Int, a ≠ 24 → M a q = I a q) (hs : 0 ≤ s ∧ s ≤ 200000) (hi : 0 ≤ i ∧ i < I 22 1) : Cn l d z yX2_lateFrom cX2_lateFrom 3 (some .int) 1 21 0 0 [vR z 22, vI s, vI i] N M (pv (vI (ltF I s i)) N M) := by
  have e22 := hM 22 1 (by decide)
  have h := c_X2_lateFrom (l := l) (d := d) (z := z) hN hF (PkC_f hP hM) (PkW_f hP hW hM) hs (show 0 ≤ i ∧ i < M 22 1 by omega)
  rw [ltF_f hP hM s hi.1 hi.2] at h
  exact h.weaken (fun v N' I' q => ⟨q.1, q.2.1, q.2.2.1⟩)

set_option maxRecDepth 8000 in
theorem c_X2_leastLate {l : Launch} {d : Dd} {z : Nat} {N : Int} {I : Mm} {t : Int} (hN : 67 ≤ N) (hF : Fx I) (hP : PkC I N) (hW : PkW I) (hz : I 22 1 ≤ 6) (ht : 0 ≤ t ∧ t ≤ 100000) : Cn l d z yX2_leastLate cX2_leastLate 7 (some .int) 2 43 0 0 [vR z 22, vI t] N I (pI (fun r N' I' => N' = N ∧ Fx I' ∧ r = I' 24 0 ∧ (∀ a q : Int, a ≠ 24 → I' a q = I a q) ∧ LLp I (I' 24) t)) := by
  refine Cn.ofA [(vR z 22, false), (vI t, false)] [some (vR z 22), some (vI t), none, none, none, none, none] RX2 (by decide) rfl ⟨cR z 22, rfl, trivial⟩ (Nat.le_of_ble_eq_true rfl) rfl (fun x ed el hx hini => ?_)
  have hl := hP.1
  refine V_aload_0 hx dX2_leastLate_0 ?_
  refine V_getIx 1 hx hF flX2_21 dX2_leastLate_1 rfl rfl (k22 hN) (fun r1 => ?_)
  refine V_bipush hx dX2_leastLate_4 (by decide) ?_
  refine V_icmp_le (tgt := 13) hx dX2_leastLate_6 (by decide) (by omega) (by omega) (fun h6 => ?_) (fun h6 => ?_)
  · refine V_iconst hx dX2_leastLate_13 ?_
    refine V_aload_0 hx dX2_leastLate_14 ?_
    refine V_getIx 1 hx hF flX2_21 dX2_leastLate_15 rfl rfl (k22 hN) (fun r15 => ?_)
    refine V_ishl hx (2 ^ (I 22 1).toNat) dX2_leastLate_18 (b6_shl (by omega)) ?_
    refine V_iconst hx dX2_leastLate_19 ?_
    refine V_isub hx dX2_leastLate_20 ?_
    obtain ⟨A, hA⟩ : ∃ A : Int, A = 2 ^ (I 22 1).toNat - 1 := ⟨_, rfl⟩
    refine V_topI A hA.symm ?_
    have hpw := pw_b (i := I 22 1) (by omega)
    refine V_istore_2 hx (by first | exact nc_I | exact nc_R | exact nc_n) dX2_leastLate_21 ?_
    refine V_aload_0 hx dX2_leastLate_22 ?_
    refine V_getRe hx flX2_17 dX2_leastLate_23 rfl (k22 hN) (hF.1 22 2 24 rfl) ?_
    refine V_iload_2 hx dX2_leastLate_26 ?_
    refine V_iconst hx dX2_leastLate_27 ?_
    refine V_iastorex hx hF dX2_leastLate_28 (k24 hN) (by decide) (by omega) (fx_none rfl _) (by omega) (Or.inl (by decide)) (fun hF => ?_)
    refine V_iload_2 hx dX2_leastLate_29 ?_
    refine V_iconst hx dX2_leastLate_30 ?_
    refine V_isub hx dX2_leastLate_31 ?_
    refine V_istore_3 hx (by first | exact nc_I | exact nc_R | exact nc_n) dX2_leastLate_32 ?_
    rw [show A - 1 = A - 1 - 0 by omega]
    refine loop_inv (α := Mm) 0 A (by omega) (fun c M => Fx M ∧ (∀ a q : Int, a ≠ 24 → M a q = I a q) ∧ M 24 A = 0 ∧ (∀ q : Int, A - 1 - c < q → q < A → M 24 q = llS I (M 24) t q (I 22 1).toNat) ∧ ∀ q : Int, A - 1 - c < q → q ≤ A → 0 ≤ M 24 q ∧ M 24 q ≤ 300000 * (A - q)) (fun c M => V x z _ N M 0 0 33 [some (vR z 22), some (vI t), some (vI A), some (vI (A - 1 - c)), none, none, none] []) ?_ ?_ _ ⟨hF, fun a q ha => up_c ha, up_s _ _ _ _, fun q q0 q1 => by omega, fun q q0 q1 => by rw [show q = A by omega, up_s]; omega⟩
    · rintro M ⟨hF, hM, m0, hE, hBd⟩
      refine V_iload_3 hx dX2_leastLate_33 ?_
      refine V_if_lt (tgt := 118) hx dX2_leastLate_34 (by decide) (by omega) (fun h34 => ?_) (fun h34 => ?_)
      · refine V_aload_0 hx dX2_leastLate_118 ?_
        refine V_getRe hx flX2_17 dX2_leastLate_119 rfl (k22 hN) (hF.1 22 2 24 rfl) ?_
        refine V_iconst hx dX2_leastLate_122 ?_
        refine V_ialoadx hx hF dX2_leastLate_123 (k24 hN) (by decide) (by omega) (fun r123 => ?_)
        refine V_ireturn hx dX2_leastLate_124 (by omega) (by omega) ?_
        exact ⟨_, rfl, rfl, hF, rfl, hM, by unfold LLp; rw [← hA]; exact ⟨m0, fun q q0 q1 => hE q (by omega) q1, fun q q0 q1 => hBd q (by omega) q1⟩⟩
      · exfalso; omega
    · rintro c M hc0 hc1 ⟨hF, hM, m0, hE, hBd⟩ ih
      have e22 := hM 22 1 (by decide)
      have hPM := PkC_f hP hM
      have hWM := PkW_f hP hW hM
      obtain ⟨r, hr⟩ : ∃ r : Int, r = A - 1 - c := ⟨_, rfl⟩
      rw [← hr]
      have hsub : ∀ i : Int, 0 ≤ i → i < I 22 1 → ¬ bitP r i → (1 ≤ (2 : Int) ^ i.toNat ∧ r + 2 ^ i.toNat ≤ A) ∧ 0 ≤ M 24 (r + 2 ^ i.toNat) ∧ M 24 (r + 2 ^ i.toNat) ≤ 300000 * (A - (r + 2 ^ i.toNat)) := by
        intro i i0 i1 hb
        have h1 := b6_add (n := I 22 1) (r := r) (i := i) (by omega) (by omega) (by omega) hb
        have h2 := pw_b (i := i) (by omega)
        have h3 := hBd (r + 2 ^ i.toNat) (by omega) (by omega)
        exact ⟨by omega, h3⟩
      refine V_iload_3 hx dX2_leastLate_33 ?_
      refine V_if_lt (tgt := 118) hx dX2_leastLate_34 (by decide) (by omega) (fun h34 => ?_) (fun h34 => ?_)
      · exfalso; omega
      · refine V_iload_1 hx dX2_leastLate_37 ?_
        refine V_aload_0 hx dX2_leastLate_38 ?_
        refine V_iload_3 hx dX2_leastLate_39 ?_
        refine V_v1P hx el ed (c_lnF hN hF hP hW hM (by omega) (by omega)) myX2_lengthOf mlX2_49 dX2_leastLate_40 ⟨_, rfl, rfl⟩ (k22 hN) (by decide) (by omega) rfl (by first | exact Nat.le_of_ble_eq_true rfl | (simp only [List.map_cons, List.map_nil, List.sum_cons, List.sum_nil, vR_cat, cat_I, cat_L]; decide)) ?_
        have hln := lnF_b hW r (I 22 1).toNat (by omega)
        refine V_iadd hx dX2_leastLate_43 ?_
        refine V_istore_4 hx (by first | exact nc_I | exact nc_R | exact nc_n) dX2_leastLate_44 ?_
        refine V_ldc (v := 1000000000) hx kcX2_52 dX2_leastLate_46 (by decide) ?_
        refine V_istore_5 hx (by first | exact nc_I | exact nc_R | exact nc_n) dX2_leastLate_48 ?_
        refine V_iconst hx dX2_leastLate_50 ?_
        refine V_istore_6 hx (by first | exact nc_I | exact nc_R | exact nc_n) dX2_leastLate_51 ?_
        have hlt : ∀ i : Int, 0 ≤ i → i < I 22 1 → 0 ≤ ltF I (t + lnF I r (I 22 1).toNat) i ∧ ltF I (t + lnF I r (I 22 1).toNat) i ≤ 300000 := fun i i0 i1 => by have := hW i i0 i1; unfold ltF; omega
        refine loop_inv (α := Int) 0 (I 22 1) hl.1 (fun i s => s = llS I (M 24) t r i.toNat ∧ 0 ≤ s ∧ s ≤ 1000000000) (fun i s => V x z _ N M 0 0 53 [some (vR z 22), some (vI t), some (vI A), some (vI r), some (vI (t + lnF I r (I 22 1).toNat)), some (vI s), some (vI i)] []) ?_ ?_ 1000000000 ⟨rfl, by omega, by omega⟩
        · rintro s ⟨es, s0, s1⟩
          refine V_iload_6 hx dX2_leastLate_53 ?_
          refine V_aload_0 hx dX2_leastLate_55 ?_
          refine V_getIx 1 hx hF flX2_21 dX2_leastLate_56 rfl rfl (k22 hN) (fun r56 => ?_)
          refine V_icmp_ge (tgt := 104) hx dX2_leastLate_59 (by decide) (by omega) (by omega) (fun h59 => ?_) (fun h59 => ?_)
          · refine V_aload_0 hx dX2_leastLate_104 ?_
            refine V_getRe hx flX2_17 dX2_leastLate_105 rfl (k22 hN) (hF.1 22 2 24 rfl) ?_
            refine V_iload_3 hx dX2_leastLate_108 ?_
            refine V_iload_5 hx dX2_leastLate_109 ?_
            refine V_iastorex hx hF dX2_leastLate_111 (k24 hN) (by decide) (by omega) (fx_none rfl _) (by omega) (Or.inl (by decide)) (fun hF => ?_)
            refine V_iinc_3 hx (by first | exact nc_I | exact nc_R | exact nc_n) dX2_leastLate_112 ?_
            refine V_goto (tgt := 33) hx dX2_leastLate_115 (by decide) ?_
            refine V_drop_4 ?_
            refine V_drop_5 ?_
            refine V_drop_6 ?_
            rw [show r + -1 = A - 1 - (c + 1) by omega]
            have hcg : ∀ q : Int, r ≤ q → q < A → llS I (up M 24 r s 24) t q (I 22 1).toNat = llS I (M 24) t q (I 22 1).toNat := by
              intro q q0 q1
              refine mnP_c (fun i i0 i1 hb => ?_)
              have := pw_b (i := i) (by omega)
              show _ + up M 24 r s 24 (q + 2 ^ i.toNat) = _ + M 24 (q + 2 ^ i.toNat)
              rw [up_k (by omega)]
            have hle := (mnP_le (p := bitP r) (f := fun i => ltF I (t + lnF I r (I 22 1).toNat) i + M 24 (r + 2 ^ i.toNat)) (m := 1000000000) (n := (I 22 1).toNat)).2
            obtain ⟨i, i0, i1, hib⟩ := b6_some (n := I 22 1) (r := r) (by omega) (by omega)
            have hle1 := hle i i0 (by omega) hib
            have hs1 := hsub i i0 i1 hib
            have hl1 := hlt i i0 i1
            have es2 : s = mnP (bitP r) (fun i => ltF I (t + lnF I r (I 22 1).toNat) i + M 24 (r + 2 ^ i.toNat)) 1000000000 (I 22 1).toNat := es
            rw [← es2] at hle1
            refine ih _ ⟨hF, fun a q ha => by rw [up_c ha]; exact hM a q ha, by rw [up_k (by omega)]; exact m0, fun q q0 q1 => ?_, fun q q0 q1 => ?_⟩
            · rw [hcg q (by omega) q1]
              by_cases hq : q = r
              · rw [hq, up_s]; exact es
              · rw [up_k hq]; exact hE q (by omega) q1
            · by_cases hq : q = r
              · rw [hq, up_s]; omega
              · rw [up_k hq]; exact hBd q (by omega) q1
          · exfalso; omega
        · rintro i s hi0 hi1 ⟨es, s0, s1⟩ jh
          refine V_iload_6 hx dX2_leastLate_53 ?_
          refine V_aload_0 hx dX2_leastLate_55 ?_
          refine V_getIx 1 hx hF flX2_21 dX2_leastLate_56 rfl rfl (k22 hN) (fun r56 => ?_)
          refine V_icmp_ge (tgt := 104) hx dX2_leastLate_59 (by decide) (by omega) (by omega) (fun h59 => ?_) (fun h59 => ?_)
          · exfalso; omega
          · refine V_iload_3 hx dX2_leastLate_62 ?_
            refine V_iload_6 hx dX2_leastLate_63 ?_
            refine V_ishr hx (r / 2 ^ i.toNat) dX2_leastLate_65 (b6_shr (by omega) (by omega)) ?_
            refine V_iconst hx dX2_leastLate_66 ?_
            refine V_iand hx (r / 2 ^ i.toNat % 2) dX2_leastLate_67 (oI_and1 _) ?_
            refine V_if_ne (tgt := 98) hx dX2_leastLate_68 (by decide) (by omega) (fun h68 => ?_) (fun h68 => ?_)
            · refine V_iinc_6 hx (by first | exact nc_I | exact nc_R | exact nc_n) dX2_leastLate_98 ?_
              refine V_goto (tgt := 53) hx dX2_leastLate_101 (by decide) ?_
              first
                | exact jh _ ⟨by unfold llS; rw [mnP_s _ _ _ hi0, cif_t (by unfold bitP; omega)]; exact es, s0, s1⟩
                | exact jh _ ⟨by unfold llS; rw [mnP_s _ _ _ hi0, cif_f (by unfold bitP; omega)]; unfold llS at es; rw [← es], by omega, by omega⟩
            · have hbc : ¬ bitP r i := by unfold bitP; omega
              have hor := b6_add (n := I 22 1) (r := r) (i := i) (by omega) (by omega) (by omega) hbc
              have hs1 := hsub i hi0 hi1 hbc
              have hl1 := hlt i hi0 hi1
              refine V_iload_5 hx dX2_leastLate_71 ?_
              refine V_aload_0 hx dX2_leastLate_73 ?_
              refine V_iload_4 hx dX2_leastLate_74 ?_
              refine V_iload_6 hx dX2_leastLate_76 ?_
              refine V_v2P hx el ed (c_ltF hN hF hP hW hM (by omega) (by omega)) myX2_lateFrom mlX2_53 dX2_leastLate_78 ⟨_, rfl, rfl⟩ (k22 hN) (by decide) (by omega) rfl (by first | exact Nat.le_of_ble_eq_true rfl | (simp only [List.map_cons, List.map_nil, List.sum_cons, List.sum_nil, vR_cat, cat_I, cat_L]; decide)) ?_
              refine V_aload_0 hx dX2_leastLate_81 ?_
              refine V_getRe hx flX2_17 dX2_leastLate_82 rfl (k22 hN) (hF.1 22 2 24 rfl) ?_
              refine V_iload_3 hx dX2_leastLate_85 ?_
              refine V_iconst hx dX2_leastLate_86 ?_
              refine V_iload_6 hx dX2_leastLate_87 ?_
              refine V_ishl hx (2 ^ i.toNat) dX2_leastLate_89 (b6_shl (by omega)) ?_
              refine V_ior hx (r + 2 ^ i.toNat) dX2_leastLate_90 hor.1 ?_
              refine V_ialoadx hx hF dX2_leastLate_91 (k24 hN) (by decide) (by omega) (fun r91 => ?_)
              refine V_iadd hx dX2_leastLate_92 ?_
              refine V_s2Q hx el ed (c_J9_min_7cf53 (by omega) (by omega)) myJ9_min_7cf53 mlX2_57 dX2_leastLate_93 (by decide) (by omega) rfl (by first | exact Nat.le_of_ble_eq_true rfl | (simp only [List.map_cons, List.map_nil, List.sum_cons, List.sum_nil, vR_cat, cat_I, cat_L]; decide)) (fun r93 => ?_)
              refine V_istore_5 hx (by first | exact nc_I | exact nc_R | exact nc_n) dX2_leastLate_96 ?_
              refine V_iinc_6 hx (by first | exact nc_I | exact nc_R | exact nc_n) dX2_leastLate_98 ?_
              refine V_goto (tgt := 53) hx dX2_leastLate_101 (by decide) ?_
              first
                | exact jh _ ⟨by unfold llS; rw [mnP_s _ _ _ hi0, cif_t (by unfold bitP; omega)]; exact es, s0, s1⟩
                | exact jh _ ⟨by unfold llS; rw [mnP_s _ _ _ hi0, cif_f (by unfold bitP; omega)]; unfold llS at es; rw [← es], by omega, by omega⟩
  · exfalso; omega

set_option maxRecDepth 8000 in
theorem c_X2_bestBehind {l : Launch} {d : Dd} {z : Nat} {N : Int} {I : Mm} {r t : Int} (hN : 67 ≤ N) (hF : Fx I) (hP : PkC I N) (hW : PkW I) (hz : I 22 1 ≤ 6) (ht : 0 ≤ t ∧ t ≤ 100000) (hE : ∀ q : Int, 0 ≤ q → q ≤ 2 ^ (I 22 1).toNat - 1 → 0 ≤ I 24 q ∧ I 24 q ≤ 20000000) (hr : 0 ≤ r ∧ r < 2 ^ (I 22 1).toNat) : Cn l d z yX2_bestBehind cX2_bestBehind 5 (some .int) 2 43 0 0 [vR z 22, vI r, vI t] N I (pq (bbF I (I 24) t r) N I) := by
  refine Cn.ofA [(vR z 22, false), (vI r, false), (vI t, false)] [some (vR z 22), some (vI r), some (vI t), none, none] RX2 (by decide) rfl ⟨cR z 22, rfl, rfl, trivial⟩ (Nat.le_of_ble_eq_true rfl) rfl (fun x ed el hx hini => ?_)
  have hl := hP.1
  have hln := lnF_b hW r (I 22 1).toNat (by omega)
  have hpw := pw_b (i := I 22 1) (by omega)
  refine V_iload_2 hx dX2_bestBehind_0 ?_
  refine V_aload_0 hx dX2_bestBehind_1 ?_
  refine V_iload_1 hx dX2_bestBehind_2 ?_
  refine V_v1Q hx el ed (c_X2_lengthOf hN hF hP hW (by omega) (by omega)) myX2_lengthOf mlX2_49 dX2_bestBehind_3 ⟨_, rfl, rfl⟩ (k22 hN) (by decide) (by omega) rfl (by first | exact Nat.le_of_ble_eq_true rfl | (simp only [List.map_cons, List.map_nil, List.sum_cons, List.sum_nil, vR_cat, cat_I, cat_L]; decide)) (fun r3 => ?_)
  refine V_iadd hx dX2_bestBehind_6 ?_
  refine V_istore_3 hx (by first | exact nc_I | exact nc_R | exact nc_n) dX2_bestBehind_7 ?_
  refine V_iconst hx dX2_bestBehind_8 ?_
  refine V_istore_4 hx (by first | exact nc_I | exact nc_R | exact nc_n) dX2_bestBehind_9 ?_
  refine loop_inv (α := Unit) 0 (I 22 1) hl.1 (fun i _ => ∀ j : Int, 0 ≤ j → j < i → ¬ ((fun i => ¬ bitP r i ∧ ltF I (t + lnF I r (I 22 1).toNat) i + I 24 (r + 2 ^ i.toNat) = I 24 r)) j) (fun i _ => V x z _ N I 0 0 11 [some (vR z 22), some (vI r), some (vI t), some (vI (t + lnF I r (I 22 1).toNat)), some (vI i)] []) ?_ ?_ () (fun j a b => by omega)
  · rintro _ hJ
    refine V_iload_4 hx dX2_bestBehind_11 ?_
    refine V_aload_0 hx dX2_bestBehind_13 ?_
    refine V_getIx 1 hx hF flX2_21 dX2_bestBehind_14 rfl rfl (k22 hN) (fun r14 => ?_)
    refine V_icmp_ge (tgt := 66) hx dX2_bestBehind_17 (by decide) (by omega) (by omega) (fun h17 => ?_) (fun h17 => ?_)
    · refine V_iconst hx dX2_bestBehind_66 ?_
      refine V_ireturn hx dX2_bestBehind_67 (by omega) (by omega) ?_
      have e : bbF I (I 24) t r = -1 := fstA_none (fun j j0 j1 => hJ j j0 (by omega))
      exact ⟨by rw [e], rfl, rfl, by rw [e]; omega⟩
    · exfalso; omega
  · rintro i _ hi0 hi1 hJ ih
    refine V_iload_4 hx dX2_bestBehind_11 ?_
    refine V_aload_0 hx dX2_bestBehind_13 ?_
    refine V_getIx 1 hx hF flX2_21 dX2_bestBehind_14 rfl rfl (k22 hN) (fun r14 => ?_)
    refine V_icmp_ge (tgt := 66) hx dX2_bestBehind_17 (by decide) (by omega) (by omega) (fun h17 => ?_) (fun h17 => ?_)
    · exfalso; omega
    · refine V_iload_1 hx dX2_bestBehind_20 ?_
      refine V_iload_4 hx dX2_bestBehind_21 ?_
      refine V_ishr hx (r / 2 ^ i.toNat) dX2_bestBehind_23 (b6_shr (by omega) (by omega)) ?_
      refine V_iconst hx dX2_bestBehind_24 ?_
      refine V_iand hx (r / 2 ^ i.toNat % 2) dX2_bestBehind_25 (oI_and1 _) ?_
      refine V_if_ne (tgt := 60) hx dX2_bestBehind_26 (by decide) (by omega) (fun h26 => ?_) (fun h26 => ?_)
      · refine V_iinc_4 hx (by first | exact nc_I | exact nc_R | exact nc_n) dX2_bestBehind_60 ?_
        refine V_goto (tgt := 11) hx dX2_bestBehind_63 (by decide) ?_
        exact ih () (fun j j0 j1 => by by_cases hj : j = i; (subst hj; rintro ⟨q1, q2⟩; first | (unfold bitP at q1; omega) | omega); exact hJ j j0 (by omega))
      · have hbc : ¬ bitP r i := by unfold bitP; omega
        have hor := b6_add (n := I 22 1) (r := r) (i := i) (by omega) (by omega) (by omega) hbc
        have hpi := pw_b (i := i) (by omega)
        have he1 := hE (r + 2 ^ i.toNat) (by omega) (by omega)
        have he2 := hE r (by omega) (by omega)
        have hwi := hW i hi0 hi1
        have hl1 : 0 ≤ ltF I (t + lnF I r (I 22 1).toNat) i ∧ ltF I (t + lnF I r (I 22 1).toNat) i ≤ 300000 := by unfold ltF; omega
        refine V_aload_0 hx dX2_bestBehind_29 ?_
        refine V_iload_3 hx dX2_bestBehind_30 ?_
        refine V_iload_4 hx dX2_bestBehind_31 ?_
        refine V_v2Q hx el ed (c_X2_lateFrom hN hF hP hW (by omega) (by omega)) myX2_lateFrom mlX2_53 dX2_bestBehind_33 ⟨_, rfl, rfl⟩ (k22 hN) (by decide) (by omega) rfl (by first | exact Nat.le_of_ble_eq_true rfl | (simp only [List.map_cons, List.map_nil, List.sum_cons, List.sum_nil, vR_cat, cat_I, cat_L]; decide)) (fun r33 => ?_)
        refine V_aload_0 hx dX2_bestBehind_36 ?_
        refine V_getRe hx flX2_17 dX2_bestBehind_37 rfl (k22 hN) (hF.1 22 2 24 rfl) ?_
        refine V_iload_1 hx dX2_bestBehind_40 ?_
        refine V_iconst hx dX2_bestBehind_41 ?_
        refine V_iload_4 hx dX2_bestBehind_42 ?_
        refine V_ishl hx (2 ^ i.toNat) dX2_bestBehind_44 (b6_shl (by omega)) ?_
        refine V_ior hx (r + 2 ^ i.toNat) dX2_bestBehind_45 hor.1 ?_
        refine V_ialoadx hx hF dX2_bestBehind_46 (k24 hN) (by decide) (by omega) (fun r46 => ?_)
        refine V_iadd hx dX2_bestBehind_47 ?_
        refine V_aload_0 hx dX2_bestBehind_48 ?_
        refine V_getRe hx flX2_17 dX2_bestBehind_49 rfl (k22 hN) (hF.1 22 2 24 rfl) ?_
        refine V_iload_1 hx dX2_bestBehind_52 ?_
        refine V_ialoadx hx hF dX2_bestBehind_53 (k24 hN) (by decide) (by omega) (fun r53 => ?_)
        refine V_icmp_ne (tgt := 60) hx dX2_bestBehind_54 (by decide) (by omega) (by omega) (fun h54 => ?_) (fun h54 => ?_)
        · refine V_iinc_4 hx (by first | exact nc_I | exact nc_R | exact nc_n) dX2_bestBehind_60 ?_
          refine V_goto (tgt := 11) hx dX2_bestBehind_63 (by decide) ?_
          exact ih () (fun j j0 j1 => by by_cases hj : j = i; (subst hj; rintro ⟨q1, q2⟩; first | (unfold bitP at q1; omega) | omega); exact hJ j j0 (by omega))
        · refine V_iload_4 hx dX2_bestBehind_57 ?_
          refine V_ireturn hx dX2_bestBehind_59 (by omega) (by omega) ?_
          have e : bbF I (I 24) t r = i := fstA_some (p := (fun i => ¬ bitP r i ∧ ltF I (t + lnF I r (I 22 1).toNat) i + I 24 (r + 2 ^ i.toNat) = I 24 r)) hi0 ⟨hbc, by omega⟩ hJ (by omega)
          exact ⟨by rw [e], rfl, rfl, by rw [e]; omega⟩

set_option maxRecDepth 8000 in
theorem c_X2_bestAt {l : Launch} {d : Dd} {z : Nat} {N : Int} {I : Mm} {p t : Int} (hN : 67 ≤ N) (hF : Fx I) (hP : PkC I N) (hW : PkW I) (hz : I 22 1 ≤ 6) (ht : 0 ≤ t ∧ t ≤ 100000) (hE : ∀ q : Int, 0 ≤ q → q ≤ 2 ^ (I 22 1).toNat - 1 → 0 ≤ I 24 q ∧ I 24 q ≤ 20000000) (hp : 0 ≤ p ∧ p < I 22 1) (hbb : ∀ r : Int, 0 ≤ r → r < 2 ^ (I 22 1).toNat - 1 → 0 ≤ bbF I (I 24) t r) (hgn : ∀ k : Nat, (k : Int) ≤ p → 0 ≤ gnF I (I 24) t k ∧ gnF I (I 24) t k < 2 ^ (I 22 1).toNat - 1) : Cn l d z yX2_bestAt cX2_bestAt 6 (some .int) 3 67 0 0 [vR z 22, vI p, vI t] N I (pv (vI (I (I 23 (bbF I (I 24) t (gnF I (I 24) t p.toNat))) 0)) N I) := by
  refine Cn.ofA [(vR z 22, false), (vI p, false), (vI t, false)] [some (vR z 22), some (vI p), some (vI t), none, none, none] RX2 (by decide) rfl ⟨cR z 22, rfl, rfl, trivial⟩ (Nat.le_of_ble_eq_true rfl) rfl (fun x ed el hx hini => ?_)
  have hl := hP.1
  have hpw := pw_b (i := I 22 1) (by omega)
  refine V_iconst hx dX2_bestAt_0 ?_
  refine V_istore_3 hx (by first | exact nc_I | exact nc_R | exact nc_n) dX2_bestAt_1 ?_
  refine V_iconst hx dX2_bestAt_2 ?_
  refine V_istore_4 hx (by first | exact nc_I | exact nc_R | exact nc_n) dX2_bestAt_3 ?_
  refine V_iconst hx dX2_bestAt_5 ?_
  refine V_istore_5 hx (by first | exact nc_I | exact nc_R | exact nc_n) dX2_bestAt_6 ?_
  refine loop_inv2 (α := Int) (β := Int) 0 (p + 1) (by omega) (fun k r c => r = gnF I (I 24) t k.toNat ∧ ((k = 0 ∧ c = -1) ∨ (1 ≤ k ∧ c = bbF I (I 24) t (gnF I (I 24) t (k - 1).toNat) ∧ 0 ≤ c ∧ c < I 22 1))) (fun k r c => V x z _ N I 0 0 8 [some (vR z 22), some (vI p), some (vI t), some (vI r), some (vI c), some (vI k)] []) ?_ ?_ 0 (-1) ⟨rfl, Or.inl ⟨rfl, rfl⟩⟩
  · rintro r c ⟨er, hc⟩
    have hc2 : 0 ≤ c ∧ c < I 22 1 := by omega
    refine V_iload_5 hx dX2_bestAt_8 ?_
    refine V_iload_1 hx dX2_bestAt_10 ?_
    refine V_icmp_gt (tgt := 61) hx dX2_bestAt_11 (by decide) (by omega) (by omega) (fun h11 => ?_) (fun h11 => ?_)
    · refine V_iload_4 hx dX2_bestAt_61 ?_
      refine V_if_ge (tgt := 71) hx dX2_bestAt_63 (by decide) (by omega) (fun h63 => ?_) (fun h63 => ?_)
      · have hen := hP.2 c (by omega) (by omega)
        have hsh := wdC hen.1 hen.2
        refine V_aload_0 hx dX2_bestAt_71 ?_
        refine V_getRe hx flX2_11 dX2_bestAt_72 rfl (k22 hN) (hF.1 22 0 23 rfl) ?_
        refine V_iload_4 hx dX2_bestAt_75 ?_
        refine V_aaload hx dX2_bestAt_77 (k23 hN) (by unfold refK; omega) (by decide) (by omega) ?_
        refine V_getIx 0 hx hF flX2_43 dX2_bestAt_78 rfl rfl hsh (fun r78 => ?_)
        refine V_ireturn hx dX2_bestAt_81 (by omega) (by omega) ?_
        have ep : p + 1 - 1 = p := by omega
        rw [ep] at hc
        exact ⟨by rw [show c = bbF I (I 24) t (gnF I (I 24) t p.toNat) by omega], rfl, rfl⟩
      · exfalso; omega
    · exfalso; omega
  · rintro k r c hk0 hk1 ⟨er, hc⟩ ih
    have hg := hgn k.toNat (by omega)
    rw [← er] at hg
    have hb0 := hbb r hg.1 hg.2
    have hbr := bbF_r I (I 24) t r hl.1
    have hb1 : bbF I (I 24) t r < I 22 1 := by omega
    refine V_iload_5 hx dX2_bestAt_8 ?_
    refine V_iload_1 hx dX2_bestAt_10 ?_
    refine V_icmp_gt (tgt := 61) hx dX2_bestAt_11 (by decide) (by omega) (by omega) (fun h11 => ?_) (fun h11 => ?_)
    · exfalso; omega
    · refine V_iload_5 hx dX2_bestAt_14 ?_
      refine V_aload_0 hx dX2_bestAt_16 ?_
      refine V_getIx 1 hx hF flX2_21 dX2_bestAt_17 rfl rfl (k22 hN) (fun r17 => ?_)
      refine V_icmp_ge (tgt := 61) hx dX2_bestAt_20 (by decide) (by omega) (by omega) (fun h20 => ?_) (fun h20 => ?_)
      · exfalso; omega
      · refine V_aload_0 hx dX2_bestAt_23 ?_
        refine V_getIx 1 hx hF flX2_21 dX2_bestAt_24 rfl rfl (k22 hN) (fun r24 => ?_)
        refine V_bipush hx dX2_bestAt_27 (by decide) ?_
        refine V_icmp_gt (tgt := 61) hx dX2_bestAt_29 (by decide) (by omega) (by omega) (fun h29 => ?_) (fun h29 => ?_)
        · exfalso; omega
        · refine V_aload_0 hx dX2_bestAt_32 ?_
          refine V_iload_3 hx dX2_bestAt_33 ?_
          refine V_iload_2 hx dX2_bestAt_34 ?_
          refine V_v2Q hx el ed (c_X2_bestBehind hN hF hP hW (by omega) (by omega) hE (by omega)) myX2_bestBehind mlX2_71 dX2_bestAt_35 ⟨_, rfl, rfl⟩ (k22 hN) (by decide) (by omega) rfl (by first | exact Nat.le_of_ble_eq_true rfl | (simp only [List.map_cons, List.map_nil, List.sum_cons, List.sum_nil, vR_cat, cat_I, cat_L]; decide)) (fun r35 => ?_)
          refine V_istore_4 hx (by first | exact nc_I | exact nc_R | exact nc_n) dX2_bestAt_38 ?_
          refine V_iload_4 hx dX2_bestAt_40 ?_
          refine V_if_ge (tgt := 48) hx dX2_bestAt_42 (by decide) (by omega) (fun h42 => ?_) (fun h42 => ?_)
          · have hor := b6_add (n := I 22 1) (r := r) (i := bbF I (I 24) t r) (by omega) (by omega) (by omega) (by rcases hbr with h | h; omega; exact h.2.2)
            refine V_iload_3 hx dX2_bestAt_48 ?_
            refine V_iconst hx dX2_bestAt_49 ?_
            refine V_iload_4 hx dX2_bestAt_50 ?_
            refine V_ishl hx (2 ^ (bbF I (I 24) t r).toNat) dX2_bestAt_52 (b6_shl (by omega)) ?_
            refine V_ior hx (r + 2 ^ (bbF I (I 24) t r).toNat) dX2_bestAt_53 hor.1 ?_
            refine V_istore_3 hx (by first | exact nc_I | exact nc_R | exact nc_n) dX2_bestAt_54 ?_
            refine V_iinc_5 hx (by first | exact nc_I | exact nc_R | exact nc_n) dX2_bestAt_55 ?_
            refine V_goto (tgt := 8) hx dX2_bestAt_58 (by decide) ?_
            refine ih _ _ ⟨?_, Or.inr ⟨by omega, by rw [show k + 1 - 1 = k by omega, er], by omega, by omega⟩⟩
            rw [show (k + 1).toNat = k.toNat + 1 by omega, gnF, ← er]
          · exfalso; omega

