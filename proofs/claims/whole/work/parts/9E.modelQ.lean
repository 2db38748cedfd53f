theorem ptl_f {I M : Mm} (h : ∀ a q : Int, a ≠ 65 → a ≠ 66 → M a q = I a q) {P : Int → Int} {n : Nat} : ptl M P n = ptl I P n := by
  unfold ptl
  rw [h 49 7 (by decide) (by decide)]
  refine fld_cong fun q i _ _ => ?_
  have e1 : lnM M (P i) = lnM I (P i) := by
    unfold lnM
    rw [h 61 _ (by decide) (by decide), h 55 _ (by decide) (by decide)]
  have e2 : duM M (P i) = duM I (P i) := by
    unfold duM
    rw [h 61 _ (by decide) (by decide), h 55 _ (by decide) (by decide)]
  rw [e1, e2]

set_option maxRecDepth 8000 in
theorem c_X11_leastOf {l : Launch} {d : Dd} {z : Nat} {N : Int} {I : Mm} {E : Int → Int} {n : Int} (hN : 67 ≤ N) (hF : Fx I) (hn : 1 ≤ n ∧ n ≤ 6) (hm : I 49 6 ≤ 1000) (h7 : 0 ≤ I 49 7 ∧ I 49 7 ≤ 100000) (hg : ∀ q : Int, 0 ≤ q → q < n → 0 ≤ I 61 q ∧ I 61 q < I 49 6) (hW : ∀ w : Int, 0 ≤ w → w < I 49 6 → (0 ≤ I 55 (13 * w + 1) ∧ I 55 (13 * w + 1) ≤ 99) ∧ (0 ≤ I 55 (13 * w + 3) ∧ I 55 (13 * w + 3) ≤ 150000)) (hTb : TbM I E n) : Cn l d z yX11_leastOf cX11_leastOf 6 (some .int) 2 47 0 0 [vR z 49, vI n] N I (pI (fun r N' I' => N' = N ∧ Fx I' ∧ (∀ a q : Int, a ≠ 65 → a ≠ 66 → I' a q = I a q) ∧ r = E 0 ∧ ∀ q : Int, 0 ≤ q → q < n → I' 66 q = I 61 (bbM I E n (gnM I E n 0 q.toNat)))) := by
  refine Cn.ofA [(vR z 49, false), (vI n, false)] [some (vR z 49), some (vI n), none, none, none, none] RX11 (by decide) rfl ⟨cR z 49, rfl, trivial⟩ (Nat.le_of_ble_eq_true rfl) rfl (fun x ed el hx hini => ?_)
  have hln : ∀ i : Int, 0 ≤ i ∧ i < n → (0 ≤ lnM I i ∧ lnM I i ≤ 99) ∧ (0 ≤ duM I i ∧ duM I i ≤ 150000) := fun i hi => by
    have h2 := hg i hi.1 hi.2
    exact hW _ h2.1 h2.2
  have hpn := pw_b (i := n) (by omega)
  have NODE : ∀ (d : Nat) (k r F : Int) (M : Mm), (d : Int) = n - k → 0 ≤ k → k < n → Fx M → (∀ a q : Int, a ≠ 65 → a ≠ 66 → M a q = I a q) → NdC I n (M 65) k r → M 65 k = -1 → (F = -4 ∨ (0 ≤ F ∧ F ≤ 100000000)) → (∀ (F2 : Int) (M2 : Mm), Fx M2 → (∀ a q : Int, a ≠ 65 → a ≠ 66 → M2 a q = I a q) → (∀ q : Int, 0 ≤ q → q < k → M2 65 q = M 65 q) → (F2 = -4 ∨ (0 ≤ F2 ∧ F2 ≤ 100000000)) → updR (I 61) n F (M 66) F2 (M2 66) ((ptl I (M 65) k.toNat).1 + E r) (seqM I E n (M 65) k r) → V x z (pI (fun r N' I' => N' = N ∧ Fx I' ∧ (∀ a q : Int, a ≠ 65 → a ≠ 66 → I' a q = I a q) ∧ r = E 0 ∧ ∀ q : Int, 0 ≤ q → q < n → I' 66 q = I 61 (bbM I E n (gnM I E n 0 q.toNat)))) N M2 0 0 12 [some (vR z 49), some (vI n), some (vI F2), some (vI (k - 1)), none, none] []) → V x z (pI (fun r N' I' => N' = N ∧ Fx I' ∧ (∀ a q : Int, a ≠ 65 → a ≠ 66 → I' a q = I a q) ∧ r = E 0 ∧ ∀ q : Int, 0 ≤ q → q < n → I' 66 q = I 61 (bbM I E n (gnM I E n 0 q.toNat)))) N M 0 0 12 [some (vR z 49), some (vI n), some (vI F), some (vI k), none, none] [] := by
    intro d
    induction d with
    | zero => intro k r F M hd k0 k1; exfalso; omega
    | succ d ih =>
      intro k r F M hd k0 k1 hFM hM hNd hMk hFr K
      have hcr := pc_lt (n := n) (r := r) (by omega) hNd.2.2.1 (by rw [hNd.2.2.2.2.1]; omega)
      have hr0 := hNd.2.2.1
      obtain ⟨s, es⟩ : ∃ s : Int, s = (ptl I (M 65) k.toNat).1 := ⟨_, rfl⟩
      rw [← es] at K
      have hsb := (ptl_b (I := I) (P := M 65) h7 (m := k) (fun i i0 i1 => hln _ (hNd.2.1 i i0 i1)) k.toNat (by omega) (by omega)).1
      rw [← es] at hsb
      have hvb : ∀ i : Int, 0 ≤ i → i < n → ¬ bitP r i → 0 ≤ vlC I E n s r i ∧ vlC I E n s r i ≤ 100000000 := fun i i0 i1 ib => by
        have h1 := b6_add (n := n) (by omega) hNd.2.2.1 ⟨i0, i1⟩ ib
        have h2 := pw_b (i := i) (by omega)
        have h3 := hTb.2.2 (r + 2 ^ i.toNat) (by omega) (by omega)
        have h4 := hln i ⟨i0, i1⟩
        have h5 := (ptl_b (I := I) (P := M 65) h7 (m := k) (fun i i0 i1 => hln _ (hNd.2.1 i i0 i1)) k.toNat (by omega) (by omega)).2
        rw [hNd.2.2.2.2.2] at h5
        unfold vlC ltB
        omega
      have CAND : ∀ (e : Nat) (c F1 : Int) (M1 : Mm), (e : Int) = n - c → 0 ≤ c → c ≤ n → Fx M1 → (∀ a q : Int, a ≠ 65 → a ≠ 66 → M1 a q = I a q) → (∀ q : Int, 0 ≤ q → q < k → M1 65 q = M 65 q) → M1 65 k = c - 1 → (F1 = -4 ∨ (0 ≤ F1 ∧ F1 ≤ 100000000)) → CdI I E n (M 65) k r s F (M 66) F1 (M1 66) c → V x z (pI (fun r N' I' => N' = N ∧ Fx I' ∧ (∀ a q : Int, a ≠ 65 → a ≠ 66 → I' a q = I a q) ∧ r = E 0 ∧ ∀ q : Int, 0 ≤ q → q < n → I' 66 q = I 61 (bbM I E n (gnM I E n 0 q.toNat)))) N M1 0 0 12 [some (vR z 49), some (vI n), some (vI F1), some (vI k), none, none] [] := by
        intro e
        induction e with
        | zero =>
          intro c F1 M1 he c0 c1 hF hM1 hP1 hk1 hF1 hC
          have ec : c = n := by omega
          refine V_iload_3 hx dX11_leastOf_12 ?_
          refine V_if_lt (tgt := 129) hx dX11_leastOf_13 (by decide) (by omega) (fun h13 => ?_) (fun h13 => ?_)
          · exfalso; omega
          · refine V_aload_0 hx dX11_leastOf_16 ?_
            refine V_getRe hx flX11_55 dX11_leastOf_17 rfl (k49 hN) (hF.1 49 24 65 rfl) ?_
            refine V_iload_3 hx dX11_leastOf_20 ?_
            refine V_dup2 hx dX11_leastOf_21 ?_
            refine V_ialoadx hx hF dX11_leastOf_22 (k65 hN) (by decide) (by omega) (fun r22 => ?_)
            rw [hk1]
            rw [hk1] at r22
            refine V_iconst hx dX11_leastOf_23 ?_
            refine V_iadd hx dX11_leastOf_24 ?_
            rw [show c - 1 + 1 = c by omega]
            refine V_iastorex hx hF dX11_leastOf_25 (k65 hN) (by decide) (by omega) (fx_none rfl _) (by omega) (Or.inl (by decide)) (fun hF => ?_)
            obtain ⟨M2, e2⟩ : ∃ J : Mm, J = up M1 65 k c := ⟨_, rfl⟩
            refine V_mem M2 e2.symm ?_
            rw [← e2] at hF
            have hM2 : (∀ a q : Int, a ≠ 65 → a ≠ 66 → M2 a q = I a q) := fun a q h1 h2 => by rw [e2, up_c h1]; exact hM1 a q h1 h2
            have hP2 : ∀ q : Int, 0 ≤ q → q < k → M2 65 q = M 65 q := fun q a b => by rw [e2, up_k (by omega)]; exact hP1 q a b
            have hk2 : M2 65 k = c := by rw [e2, up_s]
            have hB2 : M2 66 = M1 66 := by rw [e2, up_row (by decide)]
            refine V_aload_0 hx dX11_leastOf_26 ?_
            refine V_getRe hx flX11_55 dX11_leastOf_27 rfl (k49 hN) (hF.1 49 24 65 rfl) ?_
            refine V_iload_3 hx dX11_leastOf_30 ?_
            refine V_ialoadx hx hF dX11_leastOf_31 (k65 hN) (by decide) (by omega) (fun r31 => ?_)
            refine V_iload_1 hx dX11_leastOf_32 ?_
            refine V_icmp_ne (tgt := 42) hx dX11_leastOf_33 (by decide) (by omega) (by omega) (fun h33 => ?_) (fun h33 => ?_)
            · exfalso; omega
            · refine V_iinc_3 hx (by first | exact nc_I | exact nc_R | exact nc_n) dX11_leastOf_36 ?_
              refine V_goto (tgt := 12) hx dX11_leastOf_39 (by decide) ?_
              refine K F1 M2 hF hM2 hP2 hF1 ?_
              rw [hB2]
              rw [ec] at hC
              exact Cd_end hTb (by omega) ⟨hNd.2.2.1.1, hcr⟩ hC
        | succ e jh =>
          intro c F1 M1 he c0 c1 hF hM1 hP1 hk1 hF1 hC
          refine V_iload_3 hx dX11_leastOf_12 ?_
          refine V_if_lt (tgt := 129) hx dX11_leastOf_13 (by decide) (by omega) (fun h13 => ?_) (fun h13 => ?_)
          · exfalso; omega
          · refine V_aload_0 hx dX11_leastOf_16 ?_
            refine V_getRe hx flX11_55 dX11_leastOf_17 rfl (k49 hN) (hF.1 49 24 65 rfl) ?_
            refine V_iload_3 hx dX11_leastOf_20 ?_
            refine V_dup2 hx dX11_leastOf_21 ?_
            refine V_ialoadx hx hF dX11_leastOf_22 (k65 hN) (by decide) (by omega) (fun r22 => ?_)
            rw [hk1]
            rw [hk1] at r22
            refine V_iconst hx dX11_leastOf_23 ?_
            refine V_iadd hx dX11_leastOf_24 ?_
            rw [show c - 1 + 1 = c by omega]
            refine V_iastorex hx hF dX11_leastOf_25 (k65 hN) (by decide) (by omega) (fx_none rfl _) (by omega) (Or.inl (by decide)) (fun hF => ?_)
            obtain ⟨M2, e2⟩ : ∃ J : Mm, J = up M1 65 k c := ⟨_, rfl⟩
            refine V_mem M2 e2.symm ?_
            rw [← e2] at hF
            have hM2 : (∀ a q : Int, a ≠ 65 → a ≠ 66 → M2 a q = I a q) := fun a q h1 h2 => by rw [e2, up_c h1]; exact hM1 a q h1 h2
            have hP2 : ∀ q : Int, 0 ≤ q → q < k → M2 65 q = M 65 q := fun q a b => by rw [e2, up_k (by omega)]; exact hP1 q a b
            have hk2 : M2 65 k = c := by rw [e2, up_s]
            have hB2 : M2 66 = M1 66 := by rw [e2, up_row (by decide)]
            refine V_aload_0 hx dX11_leastOf_26 ?_
            refine V_getRe hx flX11_55 dX11_leastOf_27 rfl (k49 hN) (hF.1 49 24 65 rfl) ?_
            refine V_iload_3 hx dX11_leastOf_30 ?_
            refine V_ialoadx hx hF dX11_leastOf_31 (k65 hN) (by decide) (by omega) (fun r31 => ?_)
            refine V_iload_1 hx dX11_leastOf_32 ?_
            refine V_icmp_ne (tgt := 42) hx dX11_leastOf_33 (by decide) (by omega) (by omega) (fun h33 => ?_) (fun h33 => ?_)
            · refine V_aload_0 hx dX11_leastOf_42 ?_
              refine V_iload_3 hx dX11_leastOf_43 ?_
              refine V_v1P hx el ed (c_X11_isNew hN hF (by omega)) myX11_isNew mlX11_250 dX11_leastOf_44 ⟨_, rfl, rfl⟩ (k49 hN) (by decide) (by omega) rfl (by first | exact Nat.le_of_ble_eq_true rfl | (simp only [List.map_cons, List.map_nil, List.sum_cons, List.sum_nil, vR_cat, cat_I, cat_L]; decide)) ?_
              have hiff : (∀ q : Int, 0 ≤ q → q < k → M2 65 q ≠ M2 65 k) ↔ ¬ bitP r c := by
                rw [hNd.2.2.2.1 c (by omega) (by omega), hk2]
                constructor
                · rintro h ⟨q, a, b, d⟩
                  exact h q a b (by rw [hP2 q a b]; exact d)
                · intro h q a b d
                  exact h ⟨q, a, b, by rw [← hP2 q a b]; exact d⟩
              rw [vB_iff hiff]
              refine V_ifB_eq (tgt := 12) hx dX11_leastOf_47 (by decide) (fun h47 => ?_) (fun h47 => ?_)
              · exact jh (c + 1) F1 M2 (by omega) (by omega) (by omega) hF hM2 hP2 (by rw [hk2]; omega) hF1 (by rw [hB2]; exact Cd_skip hC (Classical.byContradiction (by assumption)))
              · have hb : ¬ bitP r c := by assumption
                obtain ⟨hNs, hps⟩ := NdC_s (Q := M2 65) hn hNd k1 ⟨c0, by omega⟩ hb (fun q a b => hP2 q a b) hk2
                rw [← es] at hps
                have hvc := hvb c c0 (by omega) hb
                refine V_iload_3 hx dX11_leastOf_50 ?_
                refine V_iconst hx dX11_leastOf_51 ?_
                refine V_iadd hx dX11_leastOf_52 ?_
                refine V_iload_1 hx dX11_leastOf_53 ?_
                refine V_icmp_ge (tgt := 70) hx dX11_leastOf_54 (by decide) (by omega) (by omega) (fun h54 => ?_) (fun h54 => ?_)
                · have hsq : ∀ q : Int, 0 ≤ q → q < n → M2 65 q = seqC I E n (M 65) k r c q := by
                    intro q q0 q1
                    unfold seqC
                    by_cases c1 : q < k
                    · rw [cif_t c1, hP2 q q0 c1]
                    · rw [cif_f c1, cif_t (by omega), show q = k by omega, hk2]
                  have hfull : r + 2 ^ c.toNat = 2 ^ n.toNat - 1 := pc_full (by omega) hNs.2.2.1 (by rw [hNs.2.2.2.2.1]; omega)
                  have hE0 : E (r + 2 ^ c.toNat) = 0 := by rw [hfull]; exact hTb.1
                  have hvv : (ptl M2 (M2 65) n.toNat).1 = vlC I E n s r c := by
                    rw [ptl_f (fun a q h1 h2 => hM2 a q h1 h2)]
                    unfold vlC
                    rw [hE0, Int.add_zero, ← hps, show k + 1 = n by omega]
                  refine V_aload_0 hx dX11_leastOf_70 ?_
                  refine V_iload_1 hx dX11_leastOf_71 ?_
                  refine V_v1Q hx el ed (c_X11_lates hN hF hn (by rw [hM2 49 6 (by decide) (by decide)]; exact hm) (by rw [hM2 49 7 (by decide) (by decide)]; exact h7) (fun q a b => by rw [hM2 61 q (by decide) (by decide), hM2 49 6 (by decide) (by decide)]; exact hg q a b) (fun w a b => by rw [hM2 49 6 (by decide) (by decide)] at b; rw [hM2 55 _ (by decide) (by decide), hM2 55 _ (by decide) (by decide)]; exact hW w a b) (fun q a b => hNs.2.1 q a (by omega))) myX11_lates mlX11_253 dX11_leastOf_72 ⟨_, rfl, rfl⟩ (k49 hN) (by decide) (by omega) rfl (by first | exact Nat.le_of_ble_eq_true rfl | (simp only [List.map_cons, List.map_nil, List.sum_cons, List.sum_nil, vR_cat, cat_I, cat_L]; decide)) (fun r72 => ?_)
                  rw [hvv]
                  rw [hvv] at r72
                  refine V_istore_4 hx (by first | exact nc_I | exact nc_R | exact nc_n) dX11_leastOf_75 ?_
                  refine V_iload_2 hx dX11_leastOf_77 ?_
                  refine V_bipush hx dX11_leastOf_78 (by decide) ?_
                  refine V_icmp_eq (tgt := 89) hx dX11_leastOf_80 (by decide) (by omega) (by omega) (fun h80 => ?_) (fun h80 => ?_)
                  · refine V_iload_4 hx dX11_leastOf_89 ?_
                    refine V_istore_2 hx (by first | exact nc_I | exact nc_R | exact nc_n) dX11_leastOf_91 ?_
                    refine V_iconst hx dX11_leastOf_92 ?_
                    refine V_istore_5 hx (by first | exact nc_I | exact nc_R | exact nc_n) dX11_leastOf_93 ?_
                    refine loop_inv (α := Mm) 0 n (by omega) (fun j M3 => Fx M3 ∧ (∀ a q : Int, a ≠ 65 → a ≠ 66 → M3 a q = I a q) ∧ M3 65 = M2 65 ∧ ∀ q : Int, 0 ≤ q → q < j → M3 66 q = I 61 (M2 65 q)) (fun j M3 => V x z _ N M3 0 0 95 [some (vR z 49), some (vI n), some (vI (vlC I E n s r c)), some (vI k), some (vI (vlC I E n s r c)), some (vI j)] []) ?_ ?_ M2 ⟨hF, hM2, rfl, fun q a b => by omega⟩
                    · rintro M3 ⟨hF, hM3, h65, hb3⟩
                      refine V_iload_5 hx dX11_leastOf_95 ?_
                      refine V_iload_1 hx dX11_leastOf_97 ?_
                      refine V_icmp_ge (tgt := 126) hx dX11_leastOf_98 (by decide) (by omega) (by omega) (fun h98 => ?_) (fun h98 => ?_)
                      · refine V_goto (tgt := 12) hx dX11_leastOf_126 (by decide) ?_
                        refine V_drop_4 ?_
                        refine V_drop_5 ?_
                        exact jh (c + 1) (vlC I E n s r c) M3 (by omega) (by omega) (by omega) hF hM3 (fun q a b => by rw [h65]; exact hP2 q a b) (by rw [h65, hk2]; omega) (Or.inr hvc) (Cd_step hC c0 hb (fun i a b d => (hvb i a (by omega) d).1) ⟨fun _ => ⟨rfl, fun q a b => by rw [hb3 q a b, hsq q a b]⟩, fun x => absurd (by omega) x⟩)
                      · exfalso; omega
                    · rintro j M3 hj0 hj1 ⟨hF, hM3, h65, hb3⟩ bh
                      have hpj := hNs.2.1 j hj0 (by omega)
                      have h65j : M3 65 j = M2 65 j := by rw [h65]
                      refine V_iload_5 hx dX11_leastOf_95 ?_
                      refine V_iload_1 hx dX11_leastOf_97 ?_
                      refine V_icmp_ge (tgt := 126) hx dX11_leastOf_98 (by decide) (by omega) (by omega) (fun h98 => ?_) (fun h98 => ?_)
                      · exfalso; omega
                      · refine V_aload_0 hx dX11_leastOf_101 ?_
                        refine V_getRe hx flX11_58 dX11_leastOf_102 rfl (k49 hN) (hF.1 49 25 66 rfl) ?_
                        refine V_iload_5 hx dX11_leastOf_105 ?_
                        refine V_aload_0 hx dX11_leastOf_107 ?_
                        refine V_getRe hx flX11_43 dX11_leastOf_108 rfl (k49 hN) (hF.1 49 18 61 rfl) ?_
                        refine V_aload_0 hx dX11_leastOf_111 ?_
                        refine V_getRe hx flX11_55 dX11_leastOf_112 rfl (k49 hN) (hF.1 49 24 65 rfl) ?_
                        refine V_iload_5 hx dX11_leastOf_115 ?_
                        refine V_ialoadx hx hF dX11_leastOf_117 (k65 hN) (by decide) (by omega) (fun r117 => ?_)
                        have h65j : M3 65 j = M2 65 j := by rw [h65]
                        refine V_ialoadx hx hF dX11_leastOf_118 (k61 hN) (by decide) (by omega) (fun r118 => ?_)
                        refine V_iastorex hx hF dX11_leastOf_119 (k66 hN) (by decide) (by omega) (fx_none rfl _) (by omega) (Or.inl (by decide)) (fun hF => ?_)
                        refine V_iinc_5 hx (by first | exact nc_I | exact nc_R | exact nc_n) dX11_leastOf_120 ?_
                        refine V_goto (tgt := 95) hx dX11_leastOf_123 (by decide) ?_
                        refine bh _ ⟨hF, fun a q h1 h2 => by rw [up_c h2]; exact hM3 a q h1 h2, by rw [up_row (by decide)]; exact h65, fun q a b => ?_⟩
                        by_cases hq : q = j
                        · rw [hq, up_s, h65]; exact hM3 61 _ (by decide) (by decide)
                        · rw [up_k hq]; exact hb3 q a (by omega)
                  · refine V_iload_4 hx dX11_leastOf_83 ?_
                    refine V_iload_2 hx dX11_leastOf_85 ?_
                    refine V_icmp_ge (tgt := 126) hx dX11_leastOf_86 (by decide) (by omega) (by omega) (fun h86 => ?_) (fun h86 => ?_)
                    · refine V_goto (tgt := 12) hx dX11_leastOf_126 (by decide) ?_
                      refine V_drop_4 ?_
                      exact jh (c + 1) F1 M2 (by omega) (by omega) (by omega) hF hM2 hP2 (by rw [hk2]; omega) hF1 (by rw [hB2]; exact Cd_step hC c0 hb (fun i a b d => (hvb i a (by omega) d).1) ⟨fun x => absurd x (by omega), fun _ => ⟨rfl, fun _ _ _ => rfl⟩⟩)
                    · refine V_iload_4 hx dX11_leastOf_89 ?_
                      refine V_istore_2 hx (by first | exact nc_I | exact nc_R | exact nc_n) dX11_leastOf_91 ?_
                      refine V_iconst hx dX11_leastOf_92 ?_
                      refine V_istore_5 hx (by first | exact nc_I | exact nc_R | exact nc_n) dX11_leastOf_93 ?_
                      refine loop_inv (α := Mm) 0 n (by omega) (fun j M3 => Fx M3 ∧ (∀ a q : Int, a ≠ 65 → a ≠ 66 → M3 a q = I a q) ∧ M3 65 = M2 65 ∧ ∀ q : Int, 0 ≤ q → q < j → M3 66 q = I 61 (M2 65 q)) (fun j M3 => V x z _ N M3 0 0 95 [some (vR z 49), some (vI n), some (vI (vlC I E n s r c)), some (vI k), some (vI (vlC I E n s r c)), some (vI j)] []) ?_ ?_ M2 ⟨hF, hM2, rfl, fun q a b => by omega⟩
                      · rintro M3 ⟨hF, hM3, h65, hb3⟩
                        refine V_iload_5 hx dX11_leastOf_95 ?_
                        refine V_iload_1 hx dX11_leastOf_97 ?_
                        refine V_icmp_ge (tgt := 126) hx dX11_leastOf_98 (by decide) (by omega) (by omega) (fun h98 => ?_) (fun h98 => ?_)
                        · refine V_goto (tgt := 12) hx dX11_leastOf_126 (by decide) ?_
                          refine V_drop_4 ?_
                          refine V_drop_5 ?_
                          exact jh (c + 1) (vlC I E n s r c) M3 (by omega) (by omega) (by omega) hF hM3 (fun q a b => by rw [h65]; exact hP2 q a b) (by rw [h65, hk2]; omega) (Or.inr hvc) (Cd_step hC c0 hb (fun i a b d => (hvb i a (by omega) d).1) ⟨fun _ => ⟨rfl, fun q a b => by rw [hb3 q a b, hsq q a b]⟩, fun x => absurd (by omega) x⟩)
                        · exfalso; omega
                      · rintro j M3 hj0 hj1 ⟨hF, hM3, h65, hb3⟩ bh
                        have hpj := hNs.2.1 j hj0 (by omega)
                        have h65j : M3 65 j = M2 65 j := by rw [h65]
                        refine V_iload_5 hx dX11_leastOf_95 ?_
                        refine V_iload_1 hx dX11_leastOf_97 ?_
                        refine V_icmp_ge (tgt := 126) hx dX11_leastOf_98 (by decide) (by omega) (by omega) (fun h98 => ?_) (fun h98 => ?_)
                        · exfalso; omega
                        · refine V_aload_0 hx dX11_leastOf_101 ?_
                          refine V_getRe hx flX11_58 dX11_leastOf_102 rfl (k49 hN) (hF.1 49 25 66 rfl) ?_
                          refine V_iload_5 hx dX11_leastOf_105 ?_
                          refine V_aload_0 hx dX11_leastOf_107 ?_
                          refine V_getRe hx flX11_43 dX11_leastOf_108 rfl (k49 hN) (hF.1 49 18 61 rfl) ?_
                          refine V_aload_0 hx dX11_leastOf_111 ?_
                          refine V_getRe hx flX11_55 dX11_leastOf_112 rfl (k49 hN) (hF.1 49 24 65 rfl) ?_
                          refine V_iload_5 hx dX11_leastOf_115 ?_
                          refine V_ialoadx hx hF dX11_leastOf_117 (k65 hN) (by decide) (by omega) (fun r117 => ?_)
                          have h65j : M3 65 j = M2 65 j := by rw [h65]
                          refine V_ialoadx hx hF dX11_leastOf_118 (k61 hN) (by decide) (by omega) (fun r118 => ?_)
                          refine V_iastorex hx hF dX11_leastOf_119 (k66 hN) (by decide) (by omega) (fx_none rfl _) (by omega) (Or.inl (by decide)) (fun hF => ?_)
                          refine V_iinc_5 hx (by first | exact nc_I | exact nc_R | exact nc_n) dX11_leastOf_120 ?_
                          refine V_goto (tgt := 95) hx dX11_leastOf_123 (by decide) ?_
                          refine bh _ ⟨hF, fun a q h1 h2 => by rw [up_c h2]; exact hM3 a q h1 h2, by rw [up_row (by decide)]; exact h65, fun q a b => ?_⟩
                          by_cases hq : q = j
                          · rw [hq, up_s, h65]; exact hM3 61 _ (by decide) (by decide)
                          · rw [up_k hq]; exact hb3 q a (by omega)
                · refine V_iinc_3 hx (by first | exact nc_I | exact nc_R | exact nc_n) dX11_leastOf_57 ?_
                  refine V_aload_0 hx dX11_leastOf_60 ?_
                  refine V_getRe hx flX11_55 dX11_leastOf_61 rfl (k49 hN) (hF.1 49 24 65 rfl) ?_
                  refine V_iload_3 hx dX11_leastOf_64 ?_
                  refine V_iconst hx dX11_leastOf_65 ?_
                  refine V_iastorex hx hF dX11_leastOf_66 (k65 hN) (by decide) (by omega) (fx_none rfl _) (by omega) (Or.inl (by decide)) (fun hF => ?_)
                  obtain ⟨M3, e3⟩ : ∃ J : Mm, J = up M2 65 (k + 1) (-1) := ⟨_, rfl⟩
                  refine V_mem M3 e3.symm ?_
                  rw [← e3] at hF
                  refine V_goto (tgt := 12) hx dX11_leastOf_67 (by decide) ?_
                  have hP3 : ∀ q : Int, 0 ≤ q → q ≤ k → M3 65 q = M2 65 q := fun q a b => by rw [e3, up_k (by omega)]
                  have hB3 : M3 66 = M2 66 := by rw [e3, up_row (by decide)]
                  have hM3 : ∀ a q : Int, a ≠ 65 → a ≠ 66 → M3 a q = I a q := fun a q h1 h2 => by rw [e3, up_c h1]; exact hM2 a q h1 h2
                  obtain ⟨hNs3, hps3⟩ := NdC_s (Q := M3 65) hn hNd k1 ⟨c0, by omega⟩ hb (fun q a b => by rw [hP3 q a (by omega)]; exact hP2 q a b) (by rw [hP3 k k0 (by omega)]; exact hk2)
                  rw [← es] at hps3
                  refine ih (k + 1) (r + 2 ^ c.toNat) F1 M3 (by omega) (by omega) (by omega) hF hM3 hNs3 (by rw [e3, up_s]) hF1 ?_
                  intro F4 M4 hF4 hM4 hP4 hr4 hu4
                  rw [show k + 1 - 1 = k by omega]
                  refine jh (c + 1) F4 M4 (by omega) (by omega) (by omega) hF4 hM4 (fun q a b => by rw [hP4 q a (by omega), hP3 q a (by omega)]; exact hP2 q a b) (by rw [hP4 k k0 (by omega), hP3 k k0 (by omega), hk2]; omega) hr4 ?_
                  refine Cd_step hC c0 hb (fun i a b d => (hvb i a (by omega) d).1) ?_
                  have hv4 : (ptl I (M3 65) (k + 1).toNat).1 + E (r + 2 ^ c.toNat) = vlC I E n s r c := by rw [hps3]; rfl
                  rw [hv4, hB3, hB2] at hu4
                  have hsq : ∀ q : Int, 0 ≤ q → q < n → seqM I E n (M3 65) (k + 1) (r + 2 ^ c.toNat) q = seqC I E n (M 65) k r c q := by
                    intro q q0 q1
                    unfold seqM seqC
                    by_cases c1 : q < k
                    · rw [cif_t (by omega), cif_t c1, hP3 q q0 (by omega), hP2 q q0 c1]
                    · by_cases c2 : q = k
                      · rw [cif_t (by omega), cif_f c1, cif_t c2, c2, hP3 k k0 (by omega), hk2]
                      · rw [cif_f (by omega), cif_f c1, cif_f c2, show q - (k + 1) = q - k - 1 by omega]
                  exact ⟨fun x => ⟨(hu4.1 x).1, fun q a b => by rw [(hu4.1 x).2 q a b, hsq q a b]⟩, hu4.2⟩
            · exfalso; omega
      exact CAND n.toNat 0 F M (by omega) (by omega) (by omega) hFM hM (fun _ _ _ => rfl) (by rw [hMk]; omega) hFr Cd_0
  refine V_bipush hx dX11_leastOf_0 (by decide) ?_
  refine V_istore_2 hx (by first | exact nc_I | exact nc_R | exact nc_n) dX11_leastOf_2 ?_
  refine V_iconst hx dX11_leastOf_3 ?_
  refine V_istore_3 hx (by first | exact nc_I | exact nc_R | exact nc_n) dX11_leastOf_4 ?_
  refine V_aload_0 hx dX11_leastOf_5 ?_
  refine V_getRe hx flX11_55 dX11_leastOf_6 rfl (k49 hN) (hF.1 49 24 65 rfl) ?_
  refine V_iconst hx dX11_leastOf_9 ?_
  refine V_iconst hx dX11_leastOf_10 ?_
  refine V_iastorex hx hF dX11_leastOf_11 (k65 hN) (by decide) (by omega) (fx_none rfl _) (by omega) (Or.inl (by decide)) (fun hF => ?_)
  obtain ⟨M, eM⟩ : ∃ J : Mm, J = up I 65 0 (-1) := ⟨_, rfl⟩
  refine V_mem M eM.symm ?_
  rw [← eM] at hF
  have hM : (∀ a q : Int, a ≠ 65 → a ≠ 66 → M a q = I a q) := fun a q h1 h2 => by rw [eM, up_c h1]
  refine NODE n.toNat 0 0 (-4) M (by omega) (by omega) (by omega) hF hM (NdC_0 I hn _) (by rw [eM, up_s]) (Or.inl rfl) ?_
  intro F2 M2 hF hM2 hP2 hr2 hu2
  refine V_iload_3 hx dX11_leastOf_12 ?_
  refine V_if_lt (tgt := 129) hx dX11_leastOf_13 (by decide) (by omega) (fun h13 => ?_) (fun h13 => ?_)
  · refine V_iload_2 hx dX11_leastOf_129 ?_
    refine V_ireturn hx dX11_leastOf_130 (by omega) (by omega) ?_
    obtain ⟨u1, u2⟩ := hu2.1 (Or.inl rfl)
    have e0 : (ptl I (M 65) (0 : Int).toNat).1 = 0 := rfl
    rw [e0, Int.zero_add] at u1
    refine ⟨_, rfl, rfl, hF, hM2, u1, fun q a b => ?_⟩
    rw [u2 q a b]
    congr 1
    unfold seqM
    rw [cif_f (by omega), Int.sub_zero]
  · exfalso; omega

