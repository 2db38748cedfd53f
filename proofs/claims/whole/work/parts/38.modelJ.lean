set_option maxRecDepth 8000 in
theorem c_X11_reads {l : Launch} {d : Dd} {z : Nat} {N : Int} {I : Mm} (hN : 67 ≤ N) (hF : Fx I) (hty : 0 ≤ I 49 20 ∧ I 49 20 ≤ 40) (htp : ∀ q : Int, 0 ≤ q → q < I 49 20 → 32 ≤ I 62 q ∧ I 62 q ≤ 126) : Cn l d z yX11_reads cX11_reads 6 (some .int) 3 68 0 0 [vR z 49] N I (pI (fun r N' I' => N' = N ∧ Fx I' ∧ r = (rdA I).1 ∧ (0 < r → ∀ q : Int, 0 ≤ q → q ≤ 5 → I' 63 q = (rdA I).2 q ∧ -600 ≤ I' 63 q ∧ I' 63 q ≤ 600) ∧ fr63 I I' ∧ -100 ≤ r ∧ r ≤ 6)) := by
  refine Cn.ofA [(vR z 49, false)] [some (vR z 49), none, none, none, none, none] RX11 (by decide) rfl ⟨cR z 49, trivial⟩ (Nat.le_of_ble_eq_true rfl) rfl (fun x ed el hx hini => ?_)
  have LOOP : ∀ (f : Nat) (terms a : Int) (M : Mm) (wt : Int → Int), terms = 7 - (f : Int) → 0 ≤ terms → terms ≤ 6 → M 49 21 = a → 0 ≤ a → a ≤ I 49 20 → Fx M → fr63 I M → (∀ q : Int, 0 ≤ q → q ≤ 5 → M 63 q = wt q ∧ -(99 * terms) ≤ wt q ∧ wt q ≤ 99 * terms) → rd (I 62) (I 49 20) f terms a wt = rdA I → V x z (pI (fun r N' I' => N' = N ∧ Fx I' ∧ r = (rdA I).1 ∧ (0 < r → ∀ q : Int, 0 ≤ q → q ≤ 5 → I' 63 q = (rdA I).2 q ∧ -600 ≤ I' 63 q ∧ I' 63 q ≤ 600) ∧ fr63 I I' ∧ -100 ≤ r ∧ r ≤ 6)) N M 0 0 28 [some (vR z 49), some (vI terms), none, none, none, none] [] := by
    intro f
    induction f with
    | zero => intro terms a M wt h1 h2 h3; omega
    | succ f ih =>
      intro terms a M wt ht ht0 ht6 hMa ha0 han hF hfr hwt hD
      obtain ⟨hM62, hM20⟩ := hfr.f
      obtain ⟨s1, s2, s3, s4⟩ := skf_R (t := I 62) han
      have hsg := sgn_m4 (t := I 62) (n := I 49 20) (a := (skf (I 62) (I 49 20) a)) (fun q q0 q1 => (htp q q0 q1).1) (by omega) s2
      have hsgr : -4 ≤ (sgn (I 62) (I 49 20) (skf (I 62) (I 49 20) a)) ∧ (sgn (I 62) (I 49 20) (skf (I 62) (I 49 20) a)) ≤ 126 := by
        by_cases q : (skf (I 62) (I 49 20) a) < I 49 20
        · rw [hsg.2 q]; have := htp _ (by omega) q; omega
        · have := hsg.1.mpr (by omega); omega
      rw [rd] at hD
      have MID2 : ∀ a2 : Int, a2 = (skf (I 62) (I 49 20) a) + cif ((sgn (I 62) (I 49 20) (skf (I 62) (I 49 20) a)) = 43 ∨ (sgn (I 62) (I 49 20) (skf (I 62) (I 49 20) a)) = 45) 1 0 → (terms ≠ 0 → (sgn (I 62) (I 49 20) (skf (I 62) (I 49 20) a)) ≠ -4) → ¬ (terms = 6 ∨ (0 < terms ∧ ¬ ((sgn (I 62) (I 49 20) (skf (I 62) (I 49 20) a)) = 43 ∨ (sgn (I 62) (I 49 20) (skf (I 62) (I 49 20) a)) = 45))) → Fx (up M 49 21 a2) → V x z (pI (fun r N' I' => N' = N ∧ Fx I' ∧ r = (rdA I).1 ∧ (0 < r → ∀ q : Int, 0 ≤ q → q ≤ 5 → I' 63 q = (rdA I).2 q ∧ -600 ≤ I' 63 q ∧ I' 63 q ≤ 600) ∧ fr63 I I' ∧ -100 ≤ r ∧ r ≤ 6)) N (up M 49 21 a2) 0 0 104 [some (vR z 49), some (vI terms), some (vI (sgn (I 62) (I 49 20) (skf (I 62) (I 49 20) a))), none, none, none] [] := by
        intro a2 ea2 hne hnf hF
        rw [cif_f (by omega)] at hD
        have ha2 : a2 ≤ I 49 20 := by
          by_cases q : (sgn (I 62) (I 49 20) (skf (I 62) (I 49 20) a)) = 43 ∨ (sgn (I 62) (I 49 20) (skf (I 62) (I 49 20) a)) = 45
          · rw [cif_t q] at ea2; have : ¬ (skf (I 62) (I 49 20) a) = I 49 20 := fun e => by have := hsg.1.mpr e; omega
            omega
          · rw [cif_f q] at ea2; omega
        have ha2b : 0 ≤ a2 := by
          have := cif01 ((sgn (I 62) (I 49 20) (skf (I 62) (I 49 20) a)) = 43 ∨ (sgn (I 62) (I 49 20) (skf (I 62) (I 49 20) a)) = 45); omega
        have hnb := nbr_b (t := I 62) ha2
        obtain ⟨f1, f2, f3, f4⟩ := skf_R (t := I 62) (n := I 49 20) (a := (nbr (I 62) (I 49 20) a2).2) hnb.2.2.2
        have hsg5 := sgn_m4 (t := I 62) (n := I 49 20) (a := (skf (I 62) (I 49 20) (nbr (I 62) (I 49 20) a2).2)) (fun q q0 q1 => (htp q q0 q1).1) (by omega) f2
        have htr : trm (I 62) (I 49 20) terms a = cif ((nbr (I 62) (I 49 20) a2).1 = 0) (-1, (nbr (I 62) (I 49 20) a2).2, 0) (cif (nmF (sgn (I 62) (I 49 20) (skf (I 62) (I 49 20) (nbr (I 62) (I 49 20) a2).2)) = -4) (-1, (skf (I 62) (I 49 20) (nbr (I 62) (I 49 20) a2).2), 0) (1 + nmF (sgn (I 62) (I 49 20) (skf (I 62) (I 49 20) (nbr (I 62) (I 49 20) a2).2)), (skf (I 62) (I 49 20) (nbr (I 62) (I 49 20) a2).2) + 1, cif ((sgn (I 62) (I 49 20) (skf (I 62) (I 49 20) a)) = 45) (-(nbr (I 62) (I 49 20) a2).1) (nbr (I 62) (I 49 20) a2).1)) := by
          unfold trm
          rw [cif_f hnf, ← ea2]
        refine V_aload_0 hx dX11_reads_104 ?_
        refine V_v0I hx el ed (c_X11_number hN hF (by (try simp only [up_s, up_row, up_k, ne_eq, Int.reduceEq, not_false_eq_true]); omega) (by (try simp only [up_s, up_row, up_k, ne_eq, Int.reduceEq, not_false_eq_true]); omega) (by simp only [up_row, ne_eq, Int.reduceEq, not_false_eq_true]; rw [hM62, up_k (by decide), hM20]; exact htp)) myX11_number mlX11_179 dX11_reads_105 ⟨_, rfl, rfl⟩ (k49 hN) (by decide) (by omega) rfl (by first | exact Nat.le_of_ble_eq_true rfl | simp [vI, vL, vR_cat, Value.category]) (fun v N1 I1 ⟨eN1, hF, eI1, ev⟩ => ?_)
        subst eN1
        simp only [up_s, up_row, up_k, up_uu, ne_eq, Int.reduceEq, not_false_eq_true] at eI1 ev
        rw [hM62, hM20] at eI1 ev
        subst eI1
        subst ev
        refine V_istore_4 hx (by first | exact nc_I | exact nc_R | exact nc_n) dX11_reads_108 ?_
        refine V_iload_4 hx dX11_reads_110 ?_
        refine V_if_ne (tgt := 120) hx dX11_reads_112 (by decide) (by omega) (fun h112 => ?_) (fun h112 => ?_)
        · refine V_aload_0 hx dX11_reads_120 ?_
          refine V_v0I hx el ed (c_X11_next0 hN hF (by (try simp only [up_s, up_row, up_k, ne_eq, Int.reduceEq, not_false_eq_true]); omega) (by (try simp only [up_s, up_row, up_k, ne_eq, Int.reduceEq, not_false_eq_true]); omega)) myX11_next0 mlX11_173 dX11_reads_121 ⟨_, rfl, rfl⟩ (k49 hN) (by decide) (by omega) rfl (by first | exact Nat.le_of_ble_eq_true rfl | simp [vI, vL, vR_cat, Value.category]) (fun c5 N2 I2 ⟨eN2, hF, eI2, ec5, rc2⟩ => ?_)
          subst eN2
          simp only [up_s, up_row, up_k, up_uu, ne_eq, Int.reduceEq, not_false_eq_true] at eI2 ec5
          rw [hM62, hM20] at eI2 ec5
          subst eI2
          subst ec5
          refine V_s1Q hx el ed (c_X11_nameOf (by omega)) myX11_nameOf mlX11_182 dX11_reads_124 (by decide) (by omega) rfl (by first | exact Nat.le_of_ble_eq_true rfl | simp [vI, vL, vR_cat, Value.category]) (fun r124 => ?_)
          (try simp only [up_s, up_c, up_row, up_k, ne_eq, Int.reduceEq, not_false_eq_true] at r124 ⊢)
          refine V_istore_5 hx (by first | exact nc_I | exact nc_R | exact nc_n) dX11_reads_127 ?_
          have hnm := nmF_b (sgn (I 62) (I 49 20) (skf (I 62) (I 49 20) (nbr (I 62) (I 49 20) a2).2))
          have hA5 : nmF (sgn (I 62) (I 49 20) (skf (I 62) (I 49 20) (nbr (I 62) (I 49 20) a2).2)) ≠ -4 → (skf (I 62) (I 49 20) (nbr (I 62) (I 49 20) a2).2) < I 49 20 := fun q => by
            rcases Int.lt_or_le ((skf (I 62) (I 49 20) (nbr (I 62) (I 49 20) a2).2)) (I 49 20) with h | h
            · exact h
            · exact absurd (by rw [hsg5.1.mpr (by omega)]; exact nmF_m4) q
          refine V_iload_5 hx dX11_reads_129 ?_
          refine V_bipush hx dX11_reads_131 (by decide) ?_
          refine V_icmp_ne (tgt := 144) hx dX11_reads_133 (by decide) (by omega) (by omega) (fun h133 => ?_) (fun h133 => ?_)
          · refine V_aload_0 hx dX11_reads_144 ?_
            refine V_dupR hx dX11_reads_145 ?_
            refine V_getIx 21 hx hF flX11_166 dX11_reads_146 rfl rfl (k49 hN) (fun r146 => ?_)
            (try simp only [up_s, up_c, up_row, up_k, ne_eq, Int.reduceEq, not_false_eq_true] at r146 ⊢)
            refine V_iconst hx dX11_reads_149 ?_
            refine V_iadd hx dX11_reads_150 ?_
            refine V_putIx 21 hx hF flX11_166 dX11_reads_151 rfl rfl (fun r h => by cases h; rfl) (k49 hN) rfl (by omega) (Or.inl (by decide)) (fun hF => ?_)
            refine V_aload_0 hx dX11_reads_154 ?_
            refine V_getRe hx flX11_49 dX11_reads_155 rfl (k49 hN) (hF.1 49 22 63 rfl) ?_
            refine V_iload_5 hx dX11_reads_158 ?_
            refine V_dup2 hx dX11_reads_160 ?_
            have hwn := hwt (nmF (sgn (I 62) (I 49 20) (skf (I 62) (I 49 20) (nbr (I 62) (I 49 20) a2).2))) (by omega) (by omega)
            refine V_ialoadx hx hF dX11_reads_161 (k63 hN) (by decide) (by omega) (fun r161 => ?_)
            (try simp only [up_s, up_c, up_row, up_k, ne_eq, Int.reduceEq, not_false_eq_true] at r161 ⊢)
            refine V_iload_2 hx dX11_reads_162 ?_
            refine V_bipush hx dX11_reads_163 (by decide) ?_
            refine V_icmp_ne (tgt := 174) hx dX11_reads_165 (by decide) (by omega) (by omega) (fun h165 => ?_) (fun h165 => ?_)
            · refine V_iload_4 hx dX11_reads_174 ?_
              refine V_iadd hx dX11_reads_176 ?_
              refine V_iastorex hx hF dX11_reads_177 (k63 hN) (by decide) (by omega) (fx_none rfl _) (by omega) (Or.inl (by decide)) (fun hF => ?_)
              refine V_iinc_1 hx (by first | exact nc_I | exact nc_R | exact nc_n) dX11_reads_178 ?_
              refine V_goto (tgt := 28) hx dX11_reads_181 (by decide) ?_
              rw [up_uu] at hF ⊢
              rw [cif_f (show ¬ (nbr (I 62) (I 49 20) a2).1 = 0 by omega), cif_f (show ¬ nmF (sgn (I 62) (I 49 20) (skf (I 62) (I 49 20) (nbr (I 62) (I 49 20) a2).2)) = -4 by omega)] at htr
              rw [htr, cif_f (by dsimp only; omega)] at hD
              dsimp only at hD
              first | rw [cif_t (by omega)] at hD | rw [cif_f (by omega)] at hD
              refine V_drop_2 ?_
              refine V_drop_3 ?_
              refine V_drop_4 ?_
              refine V_drop_5 ?_
              refine ih (terms + 1) ((skf (I 62) (I 49 20) (nbr (I 62) (I 49 20) a2).2) + 1) _ _ (by omega) (by omega) (by omega) (by rw [up_c (by decide)]; exact up_s _ _ _ _) (by omega) (by have := hA5 (by omega); omega) hF (fr63_up63 (fr63_up hfr _) _ _) (fun q q0 q1 => ?_) hD
              have hwq := hwt q q0 q1
              by_cases hq : q = nmF (sgn (I 62) (I 49 20) (skf (I 62) (I 49 20) (nbr (I 62) (I 49 20) a2).2))
              · subst hq; rw [up_s, cif_t (by omega)]; refine ⟨?_, ?_, ?_⟩ <;> omega
              · rw [up_k hq, cif_f (by omega), up_c (by decide)]; refine ⟨hwq.1, ?_, ?_⟩ <;> omega
            · refine V_iload_4 hx dX11_reads_168 ?_
              refine V_ineg hx dX11_reads_170 ?_
              refine V_goto (tgt := 176) hx dX11_reads_171 (by decide) ?_
              refine V_iadd hx dX11_reads_176 ?_
              refine V_iastorex hx hF dX11_reads_177 (k63 hN) (by decide) (by omega) (fx_none rfl _) (by omega) (Or.inl (by decide)) (fun hF => ?_)
              refine V_iinc_1 hx (by first | exact nc_I | exact nc_R | exact nc_n) dX11_reads_178 ?_
              refine V_goto (tgt := 28) hx dX11_reads_181 (by decide) ?_
              rw [up_uu] at hF ⊢
              rw [cif_f (show ¬ (nbr (I 62) (I 49 20) a2).1 = 0 by omega), cif_f (show ¬ nmF (sgn (I 62) (I 49 20) (skf (I 62) (I 49 20) (nbr (I 62) (I 49 20) a2).2)) = -4 by omega)] at htr
              rw [htr, cif_f (by dsimp only; omega)] at hD
              dsimp only at hD
              first | rw [cif_t (by omega)] at hD | rw [cif_f (by omega)] at hD
              refine V_drop_2 ?_
              refine V_drop_3 ?_
              refine V_drop_4 ?_
              refine V_drop_5 ?_
              refine ih (terms + 1) ((skf (I 62) (I 49 20) (nbr (I 62) (I 49 20) a2).2) + 1) _ _ (by omega) (by omega) (by omega) (by rw [up_c (by decide)]; exact up_s _ _ _ _) (by omega) (by have := hA5 (by omega); omega) hF (fr63_up63 (fr63_up hfr _) _ _) (fun q q0 q1 => ?_) hD
              have hwq := hwt q q0 q1
              by_cases hq : q = nmF (sgn (I 62) (I 49 20) (skf (I 62) (I 49 20) (nbr (I 62) (I 49 20) a2).2))
              · subst hq; rw [up_s, cif_t (by omega)]; refine ⟨?_, ?_, ?_⟩ <;> omega
              · rw [up_k hq, cif_f (by omega), up_c (by decide)]; refine ⟨hwq.1, ?_, ?_⟩ <;> omega
          · refine V_bipush hx dX11_reads_136 (by decide) ?_
            refine V_aload_0 hx dX11_reads_138 ?_
            refine V_getIx 21 hx hF flX11_166 dX11_reads_139 rfl rfl (k49 hN) (fun r139 => ?_)
            (try simp only [up_s, up_c, up_row, up_k, ne_eq, Int.reduceEq, not_false_eq_true] at r139 ⊢)
            refine V_isub hx dX11_reads_142 ?_
            refine V_ireturn hx dX11_reads_143 (by omega) (by omega) ?_
            first | rw [cif_t (show (nbr (I 62) (I 49 20) a2).1 = 0 by omega)] at htr | rw [cif_f (show ¬ (nbr (I 62) (I 49 20) a2).1 = 0 by omega), cif_t (show nmF (sgn (I 62) (I 49 20) (skf (I 62) (I 49 20) (nbr (I 62) (I 49 20) a2).2)) = -4 by omega)] at htr
            rw [htr, cif_t rfl] at hD
            refine ⟨_, rfl, rfl, hF, by rw [← hD], fun h => by omega, (fr63_up hfr _), by omega, by omega⟩
        · refine V_bipush hx dX11_reads_115 (by decide) ?_
          refine V_goto (tgt := 127) hx dX11_reads_117 (by decide) ?_
          refine V_istore_5 hx (by first | exact nc_I | exact nc_R | exact nc_n) dX11_reads_127 ?_
          have hnm := nmF_b (sgn (I 62) (I 49 20) (skf (I 62) (I 49 20) (nbr (I 62) (I 49 20) a2).2))
          have hA5 : nmF (sgn (I 62) (I 49 20) (skf (I 62) (I 49 20) (nbr (I 62) (I 49 20) a2).2)) ≠ -4 → (skf (I 62) (I 49 20) (nbr (I 62) (I 49 20) a2).2) < I 49 20 := fun q => by
            rcases Int.lt_or_le ((skf (I 62) (I 49 20) (nbr (I 62) (I 49 20) a2).2)) (I 49 20) with h | h
            · exact h
            · exact absurd (by rw [hsg5.1.mpr (by omega)]; exact nmF_m4) q
          refine V_iload_5 hx dX11_reads_129 ?_
          refine V_bipush hx dX11_reads_131 (by decide) ?_
          refine V_icmp_ne (tgt := 144) hx dX11_reads_133 (by decide) (by omega) (by omega) (fun h => absurd h (by decide)) (fun _ => ?_)
          refine V_bipush hx dX11_reads_136 (by decide) ?_
          refine V_aload_0 hx dX11_reads_138 ?_
          refine V_getIx 21 hx hF flX11_166 dX11_reads_139 rfl rfl (k49 hN) (fun r139 => ?_)
          (try simp only [up_s, up_c, up_row, up_k, ne_eq, Int.reduceEq, not_false_eq_true] at r139 ⊢)
          refine V_isub hx dX11_reads_142 ?_
          refine V_ireturn hx dX11_reads_143 (by omega) (by omega) ?_
          first | rw [cif_t (show (nbr (I 62) (I 49 20) a2).1 = 0 by omega)] at htr | rw [cif_f (show ¬ (nbr (I 62) (I 49 20) a2).1 = 0 by omega), cif_t (show nmF (sgn (I 62) (I 49 20) (skf (I 62) (I 49 20) (nbr (I 62) (I 49 20) a2).2)) = -4 by omega)] at htr
          rw [htr, cif_t rfl] at hD
          refine ⟨_, rfl, rfl, hF, by rw [← hD], fun h => by omega, (fr63_up hfr _), by omega, by omega⟩
      have MID : (terms ≠ 0 → (sgn (I 62) (I 49 20) (skf (I 62) (I 49 20) a)) ≠ -4) → Fx (up M 49 21 (skf (I 62) (I 49 20) a)) → V x z (pI (fun r N' I' => N' = N ∧ Fx I' ∧ r = (rdA I).1 ∧ (0 < r → ∀ q : Int, 0 ≤ q → q ≤ 5 → I' 63 q = (rdA I).2 q ∧ -600 ≤ I' 63 q ∧ I' 63 q ≤ 600) ∧ fr63 I I' ∧ -100 ≤ r ∧ r ≤ 6)) N (up M 49 21 (skf (I 62) (I 49 20) a)) 0 0 46 [some (vR z 49), some (vI terms), some (vI (sgn (I 62) (I 49 20) (skf (I 62) (I 49 20) a))), none, none, none] [] := by
        intro hne hF
        refine V_iload_2 hx dX11_reads_46 ?_
        refine V_bipush hx dX11_reads_47 (by decide) ?_
        refine V_icmp_eq (tgt := 58) hx dX11_reads_49 (by decide) (by omega) (by omega) (fun h49 => ?_) (fun h49 => ?_)
        · refine V_iconst hx dX11_reads_58 ?_
          refine V_goto (tgt := 63) hx dX11_reads_59 (by decide) ?_
          refine V_istore_3 hx (by first | exact nc_I | exact nc_R | exact nc_n) dX11_reads_63 ?_
          refine V_iload_1 hx dX11_reads_64 ?_
          refine V_bipush hx dX11_reads_65 (by decide) ?_
          refine V_icmp_eq (tgt := 78) hx dX11_reads_67 (by decide) (by omega) (by omega) (fun h67 => ?_) (fun h67 => ?_)
          · refine V_bipush hx dX11_reads_78 (by decide) ?_
            refine V_aload_0 hx dX11_reads_80 ?_
            refine V_getIx 21 hx hF flX11_166 dX11_reads_81 rfl rfl (k49 hN) (fun r81 => ?_)
            (try simp only [up_s, up_c, up_row, up_k, ne_eq, Int.reduceEq, not_false_eq_true] at r81 ⊢)
            refine V_isub hx dX11_reads_84 ?_
            refine V_ireturn hx dX11_reads_85 (by omega) (by omega) ?_
            rw [cif_f (by omega)] at hD
            have htr : trm (I 62) (I 49 20) terms a = (-1, (skf (I 62) (I 49 20) a), 0) := by unfold trm; rw [cif_t (by omega)]
            rw [htr, cif_t rfl] at hD
            refine ⟨_, rfl, rfl, hF, by rw [← hD], fun h => by omega, (fr63_up hfr _), by omega, by omega⟩
          · refine V_iload_1 hx dX11_reads_70 ?_
            refine V_if_le (tgt := 86) hx dX11_reads_71 (by decide) (by omega) (fun h71 => ?_) (fun h71 => ?_)
            · refine V_aload_0 hx dX11_reads_86 ?_
              refine V_dupR hx dX11_reads_87 ?_
              refine V_getIx 21 hx hF flX11_166 dX11_reads_88 rfl rfl (k49 hN) (fun r88 => ?_)
              (try simp only [up_s, up_c, up_row, up_k, ne_eq, Int.reduceEq, not_false_eq_true] at r88 ⊢)
              refine V_iload_3 hx dX11_reads_91 ?_
              refine V_if_eq (tgt := 99) hx dX11_reads_92 (by decide) (by omega) (fun h => absurd h (by decide)) (fun _ => ?_)
              refine V_iconst hx dX11_reads_95 ?_
              refine V_goto (tgt := 100) hx dX11_reads_96 (by decide) ?_
              refine V_iadd hx dX11_reads_100 ?_
              refine V_putIx 21 hx hF flX11_166 dX11_reads_101 rfl rfl (fun r h => by cases h; rfl) (k49 hN) rfl (by omega) (Or.inl (by decide)) (fun hF => ?_)
              rw [up_uu] at hF ⊢
              refine V_drop_3 ?_
              first | exact MID2 _ (by rw [cif_t (by omega)]) hne (by omega) hF | exact MID2 _ (by rw [cif_f (by omega)]) hne (by omega) hF
            · refine V_iload_3 hx dX11_reads_74 ?_
              refine V_if_ne (tgt := 86) hx dX11_reads_75 (by decide) (by omega) (fun _ => ?_) (fun h => absurd h (by decide))
              refine V_aload_0 hx dX11_reads_86 ?_
              refine V_dupR hx dX11_reads_87 ?_
              refine V_getIx 21 hx hF flX11_166 dX11_reads_88 rfl rfl (k49 hN) (fun r88 => ?_)
              (try simp only [up_s, up_c, up_row, up_k, ne_eq, Int.reduceEq, not_false_eq_true] at r88 ⊢)
              refine V_iload_3 hx dX11_reads_91 ?_
              refine V_if_eq (tgt := 99) hx dX11_reads_92 (by decide) (by omega) (fun h => absurd h (by decide)) (fun _ => ?_)
              refine V_iconst hx dX11_reads_95 ?_
              refine V_goto (tgt := 100) hx dX11_reads_96 (by decide) ?_
              refine V_iadd hx dX11_reads_100 ?_
              refine V_putIx 21 hx hF flX11_166 dX11_reads_101 rfl rfl (fun r h => by cases h; rfl) (k49 hN) rfl (by omega) (Or.inl (by decide)) (fun hF => ?_)
              rw [up_uu] at hF ⊢
              refine V_drop_3 ?_
              first | exact MID2 _ (by rw [cif_t (by omega)]) hne (by omega) hF | exact MID2 _ (by rw [cif_f (by omega)]) hne (by omega) hF
        · refine V_iload_2 hx dX11_reads_52 ?_
          refine V_bipush hx dX11_reads_53 (by decide) ?_
          refine V_icmp_ne (tgt := 62) hx dX11_reads_55 (by decide) (by omega) (by omega) (fun h55 => ?_) (fun h55 => ?_)
          · refine V_iconst hx dX11_reads_62 ?_
            refine V_istore_3 hx (by first | exact nc_I | exact nc_R | exact nc_n) dX11_reads_63 ?_
            refine V_iload_1 hx dX11_reads_64 ?_
            refine V_bipush hx dX11_reads_65 (by decide) ?_
            refine V_icmp_eq (tgt := 78) hx dX11_reads_67 (by decide) (by omega) (by omega) (fun h67 => ?_) (fun h67 => ?_)
            · refine V_bipush hx dX11_reads_78 (by decide) ?_
              refine V_aload_0 hx dX11_reads_80 ?_
              refine V_getIx 21 hx hF flX11_166 dX11_reads_81 rfl rfl (k49 hN) (fun r81 => ?_)
              (try simp only [up_s, up_c, up_row, up_k, ne_eq, Int.reduceEq, not_false_eq_true] at r81 ⊢)
              refine V_isub hx dX11_reads_84 ?_
              refine V_ireturn hx dX11_reads_85 (by omega) (by omega) ?_
              rw [cif_f (by omega)] at hD
              have htr : trm (I 62) (I 49 20) terms a = (-1, (skf (I 62) (I 49 20) a), 0) := by unfold trm; rw [cif_t (by omega)]
              rw [htr, cif_t rfl] at hD
              refine ⟨_, rfl, rfl, hF, by rw [← hD], fun h => by omega, (fr63_up hfr _), by omega, by omega⟩
            · refine V_iload_1 hx dX11_reads_70 ?_
              refine V_if_le (tgt := 86) hx dX11_reads_71 (by decide) (by omega) (fun h71 => ?_) (fun h71 => ?_)
              · refine V_aload_0 hx dX11_reads_86 ?_
                refine V_dupR hx dX11_reads_87 ?_
                refine V_getIx 21 hx hF flX11_166 dX11_reads_88 rfl rfl (k49 hN) (fun r88 => ?_)
                (try simp only [up_s, up_c, up_row, up_k, ne_eq, Int.reduceEq, not_false_eq_true] at r88 ⊢)
                refine V_iload_3 hx dX11_reads_91 ?_
                refine V_if_eq (tgt := 99) hx dX11_reads_92 (by decide) (by omega) (fun _ => ?_) (fun h => absurd h (by decide))
                refine V_iconst hx dX11_reads_99 ?_
                refine V_iadd hx dX11_reads_100 ?_
                refine V_putIx 21 hx hF flX11_166 dX11_reads_101 rfl rfl (fun r h => by cases h; rfl) (k49 hN) rfl (by omega) (Or.inl (by decide)) (fun hF => ?_)
                rw [up_uu] at hF ⊢
                refine V_drop_3 ?_
                first | exact MID2 _ (by rw [cif_t (by omega)]) hne (by omega) hF | exact MID2 _ (by rw [cif_f (by omega)]) hne (by omega) hF
              · refine V_iload_3 hx dX11_reads_74 ?_
                refine V_if_ne (tgt := 86) hx dX11_reads_75 (by decide) (by omega) (fun h => absurd h (by decide)) (fun _ => ?_)
                refine V_bipush hx dX11_reads_78 (by decide) ?_
                refine V_aload_0 hx dX11_reads_80 ?_
                refine V_getIx 21 hx hF flX11_166 dX11_reads_81 rfl rfl (k49 hN) (fun r81 => ?_)
                (try simp only [up_s, up_c, up_row, up_k, ne_eq, Int.reduceEq, not_false_eq_true] at r81 ⊢)
                refine V_isub hx dX11_reads_84 ?_
                refine V_ireturn hx dX11_reads_85 (by omega) (by omega) ?_
                rw [cif_f (by omega)] at hD
                have htr : trm (I 62) (I 49 20) terms a = (-1, (skf (I 62) (I 49 20) a), 0) := by unfold trm; rw [cif_t (by omega)]
                rw [htr, cif_t rfl] at hD
                refine ⟨_, rfl, rfl, hF, by rw [← hD], fun h => by omega, (fr63_up hfr _), by omega, by omega⟩
          · refine V_iconst hx dX11_reads_58 ?_
            refine V_goto (tgt := 63) hx dX11_reads_59 (by decide) ?_
            refine V_istore_3 hx (by first | exact nc_I | exact nc_R | exact nc_n) dX11_reads_63 ?_
            refine V_iload_1 hx dX11_reads_64 ?_
            refine V_bipush hx dX11_reads_65 (by decide) ?_
            refine V_icmp_eq (tgt := 78) hx dX11_reads_67 (by decide) (by omega) (by omega) (fun h67 => ?_) (fun h67 => ?_)
            · refine V_bipush hx dX11_reads_78 (by decide) ?_
              refine V_aload_0 hx dX11_reads_80 ?_
              refine V_getIx 21 hx hF flX11_166 dX11_reads_81 rfl rfl (k49 hN) (fun r81 => ?_)
              (try simp only [up_s, up_c, up_row, up_k, ne_eq, Int.reduceEq, not_false_eq_true] at r81 ⊢)
              refine V_isub hx dX11_reads_84 ?_
              refine V_ireturn hx dX11_reads_85 (by omega) (by omega) ?_
              rw [cif_f (by omega)] at hD
              have htr : trm (I 62) (I 49 20) terms a = (-1, (skf (I 62) (I 49 20) a), 0) := by unfold trm; rw [cif_t (by omega)]
              rw [htr, cif_t rfl] at hD
              refine ⟨_, rfl, rfl, hF, by rw [← hD], fun h => by omega, (fr63_up hfr _), by omega, by omega⟩
            · refine V_iload_1 hx dX11_reads_70 ?_
              refine V_if_le (tgt := 86) hx dX11_reads_71 (by decide) (by omega) (fun h71 => ?_) (fun h71 => ?_)
              · refine V_aload_0 hx dX11_reads_86 ?_
                refine V_dupR hx dX11_reads_87 ?_
                refine V_getIx 21 hx hF flX11_166 dX11_reads_88 rfl rfl (k49 hN) (fun r88 => ?_)
                (try simp only [up_s, up_c, up_row, up_k, ne_eq, Int.reduceEq, not_false_eq_true] at r88 ⊢)
                refine V_iload_3 hx dX11_reads_91 ?_
                refine V_if_eq (tgt := 99) hx dX11_reads_92 (by decide) (by omega) (fun h => absurd h (by decide)) (fun _ => ?_)
                refine V_iconst hx dX11_reads_95 ?_
                refine V_goto (tgt := 100) hx dX11_reads_96 (by decide) ?_
                refine V_iadd hx dX11_reads_100 ?_
                refine V_putIx 21 hx hF flX11_166 dX11_reads_101 rfl rfl (fun r h => by cases h; rfl) (k49 hN) rfl (by omega) (Or.inl (by decide)) (fun hF => ?_)
                rw [up_uu] at hF ⊢
                refine V_drop_3 ?_
                first | exact MID2 _ (by rw [cif_t (by omega)]) hne (by omega) hF | exact MID2 _ (by rw [cif_f (by omega)]) hne (by omega) hF
              · refine V_iload_3 hx dX11_reads_74 ?_
                refine V_if_ne (tgt := 86) hx dX11_reads_75 (by decide) (by omega) (fun _ => ?_) (fun h => absurd h (by decide))
                refine V_aload_0 hx dX11_reads_86 ?_
                refine V_dupR hx dX11_reads_87 ?_
                refine V_getIx 21 hx hF flX11_166 dX11_reads_88 rfl rfl (k49 hN) (fun r88 => ?_)
                (try simp only [up_s, up_c, up_row, up_k, ne_eq, Int.reduceEq, not_false_eq_true] at r88 ⊢)
                refine V_iload_3 hx dX11_reads_91 ?_
                refine V_if_eq (tgt := 99) hx dX11_reads_92 (by decide) (by omega) (fun h => absurd h (by decide)) (fun _ => ?_)
                refine V_iconst hx dX11_reads_95 ?_
                refine V_goto (tgt := 100) hx dX11_reads_96 (by decide) ?_
                refine V_iadd hx dX11_reads_100 ?_
                refine V_putIx 21 hx hF flX11_166 dX11_reads_101 rfl rfl (fun r h => by cases h; rfl) (k49 hN) rfl (by omega) (Or.inl (by decide)) (fun hF => ?_)
                rw [up_uu] at hF ⊢
                refine V_drop_3 ?_
                first | exact MID2 _ (by rw [cif_t (by omega)]) hne (by omega) hF | exact MID2 _ (by rw [cif_f (by omega)]) hne (by omega) hF
      refine V_iload_1 hx dX11_reads_28 ?_
      refine V_if_eq (tgt := 41) hx dX11_reads_29 (by decide) (by omega) (fun h29 => ?_) (fun h29 => ?_)
      · refine V_aload_0 hx dX11_reads_41 ?_
        refine V_v0I hx el ed (c_X11_next0 hN hF (by (try simp only [up_s, up_row, up_k, ne_eq, Int.reduceEq, not_false_eq_true]); omega) (by (try simp only [up_s, up_row, up_k, ne_eq, Int.reduceEq, not_false_eq_true]); omega)) myX11_next0 mlX11_173 dX11_reads_42 ⟨_, rfl, rfl⟩ (k49 hN) (by decide) (by omega) rfl (by first | exact Nat.le_of_ble_eq_true rfl | simp [vI, vL, vR_cat, Value.category]) (fun c1 N1 I1 ⟨eN1, hF, eI1, ec1, rc1⟩ => ?_)
        subst eN1
        rw [hM62, hM20, hMa] at eI1 ec1
        subst eI1
        subst ec1
        refine V_istore_2 hx (by first | exact nc_I | exact nc_R | exact nc_n) dX11_reads_45 ?_
        exact MID (by omega) hF
      · refine V_aload_0 hx dX11_reads_32 ?_
        refine V_v0I hx el ed (c_X11_next0 hN hF (by (try simp only [up_s, up_row, up_k, ne_eq, Int.reduceEq, not_false_eq_true]); omega) (by (try simp only [up_s, up_row, up_k, ne_eq, Int.reduceEq, not_false_eq_true]); omega)) myX11_next0 mlX11_173 dX11_reads_33 ⟨_, rfl, rfl⟩ (k49 hN) (by decide) (by omega) rfl (by first | exact Nat.le_of_ble_eq_true rfl | simp [vI, vL, vR_cat, Value.category]) (fun c1 N1 I1 ⟨eN1, hF, eI1, ec1, rc1⟩ => ?_)
        subst eN1
        rw [hM62, hM20, hMa] at eI1 ec1
        subst eI1
        refine V_bipush hx dX11_reads_36 (by decide) ?_
        refine V_icmp_eq (tgt := 184) hx dX11_reads_38 (by decide) (by omega) (by omega) (fun h38 => ?_) (fun h38 => ?_)
        · refine V_iload_1 hx dX11_reads_184 ?_
          refine V_ireturn hx dX11_reads_185 (by omega) (by omega) ?_
          rw [cif_t (by omega)] at hD
          refine ⟨_, rfl, rfl, hF, by rw [← hD], fun _ q q0 q1 => ?_, (fr63_up hfr _), by omega, by omega⟩
          have := hwt q q0 q1
          rw [← hD, up_c (by decide)]
          exact ⟨this.1, by omega, by omega⟩
        · refine V_aload_0 hx dX11_reads_41 ?_
          refine V_v0I hx el ed (c_X11_next0 hN hF (by (try simp only [up_s, up_row, up_k, ne_eq, Int.reduceEq, not_false_eq_true]); omega) (by (try simp only [up_s, up_row, up_k, ne_eq, Int.reduceEq, not_false_eq_true]); omega)) myX11_next0 mlX11_173 dX11_reads_42 ⟨_, rfl, rfl⟩ (k49 hN) (by decide) (by omega) rfl (by first | exact Nat.le_of_ble_eq_true rfl | simp [vI, vL, vR_cat, Value.category]) (fun c2 N2 I2 ⟨eN2, hF, eI2, ec2, rc2⟩ => ?_)
          subst eN2
          simp only [up_s, up_row, up_k, up_uu, ne_eq, Int.reduceEq, not_false_eq_true] at eI2 ec2
          rw [hM62, hM20, skf_id han] at eI2 ec2
          subst eI2
          subst ec2
          refine V_istore_2 hx (by first | exact nc_I | exact nc_R | exact nc_n) dX11_reads_45 ?_
          exact MID (by omega) hF
  refine V_aload_0 hx dX11_reads_0 ?_
  refine V_iconst hx dX11_reads_1 ?_
  refine V_putIx 21 hx hF flX11_166 dX11_reads_2 rfl rfl (fun r h => by cases h; rfl) (k49 hN) rfl (by omega) (Or.inl (by decide)) (fun hF => ?_)
  refine V_iconst hx dX11_reads_5 ?_
  refine V_istore_1 hx (by first | exact nc_I | exact nc_R | exact nc_n) dX11_reads_6 ?_
  refine loop_inv (α := Mm) 0 6 (by decide) (fun i M => Fx M ∧ fr63 I M ∧ M 49 21 = 0 ∧ ∀ q : Int, 0 ≤ q → q < i → M 63 q = 0) (fun i M => V x z _ N M 0 0 7 [some (vR z 49), some (vI i), none, none, none, none] []) ?_ ?_ _ ⟨hF, (fun a q h1 h2 => by rw [up_n (by omega)]), up_s _ _ _ _, fun q a b => by omega⟩
  · rintro M ⟨hF, hfr, hM21, hz⟩
    refine V_iload_1 hx dX11_reads_7 ?_
    refine V_bipush hx dX11_reads_8 (by decide) ?_
    refine V_icmp_ge (tgt := 26) hx dX11_reads_10 (by decide) (by omega) (by omega) (fun h10 => ?_) (fun h10 => ?_)
    · refine V_iconst hx dX11_reads_26 ?_
      refine V_istore_1 hx (by first | exact nc_I | exact nc_R | exact nc_n) dX11_reads_27 ?_
      exact LOOP 7 0 0 M (fun _ => 0) (by decide) (by decide) (by decide) hM21 (by decide) (by omega) hF hfr (fun q q0 q1 => ⟨hz q q0 (by omega), by omega, by omega⟩) rfl
    · exfalso; omega
  · rintro i M hi0 hi1 ⟨hF, hfr, hM21, hz⟩ ih
    refine V_iload_1 hx dX11_reads_7 ?_
    refine V_bipush hx dX11_reads_8 (by decide) ?_
    refine V_icmp_ge (tgt := 26) hx dX11_reads_10 (by decide) (by omega) (by omega) (fun h10 => ?_) (fun h10 => ?_)
    · exfalso; omega
    · refine V_aload_0 hx dX11_reads_13 ?_
      refine V_getRe hx flX11_49 dX11_reads_14 rfl (k49 hN) (hF.1 49 22 63 rfl) ?_
      refine V_iload_1 hx dX11_reads_17 ?_
      refine V_iconst hx dX11_reads_18 ?_
      refine V_iastorex hx hF dX11_reads_19 (k63 hN) (by decide) (by omega) (fx_none rfl _) (by omega) (Or.inl (by decide)) (fun hF => ?_)
      refine V_iinc_1 hx (by first | exact nc_I | exact nc_R | exact nc_n) dX11_reads_20 ?_
      refine V_goto (tgt := 7) hx dX11_reads_23 (by decide) ?_
      refine ih _ ⟨hF, fr63_up63 hfr _ _, by rw [up_c (by decide)]; exact hM21, fun q q0 q1 => ?_⟩
      by_cases hq : q = i
      · subst hq; exact up_s _ _ _ _
      · rw [up_k hq]; exact hz q q0 (by omega)

set_option maxRecDepth 8000 in
theorem c_X11_rule {l : Launch} {d : Dd} {z : Nat} {N : Int} {I : Mm} {q : Int} (hN : 67 ≤ N) (hF : Fx I) (hty : 0 ≤ I 49 20 ∧ I 49 20 ≤ 40) (htp : ∀ q : Int, 0 ≤ q → q < I 49 20 → 32 ≤ I 62 q ∧ I 62 q ≤ 126) (hq : -2147483648 ≤ q ∧ q ≤ 2147483647) : Cn l d z yX11_rule cX11_rule 4 (some .int) 4 93 0 0 [vR z 49, vI q] N I (pI (fun r N' I' => N' = N ∧ Fx I' ∧ r = aRule I q ∧ gRuleR I q I')) := by
  refine Cn.ofA [(vR z 49, false), (vI q, false)] [some (vR z 49), some (vI q), none, none] RX11 (by decide) rfl ⟨cR z 49, rfl, trivial⟩ (Nat.le_of_ble_eq_true rfl) rfl (fun x ed el hx hini => ?_)
  refine V_iload_1 hx dX11_rule_0 ?_
  refine V_i2l hx dX11_rule_1 (by omega) ?_
  refine V_lconst (v := 0) hx dX11_rule_2 (by decide) ?_
  refine V_lconst (v := 1) hx dX11_rule_3 (by decide) ?_
  refine V_s3P hx el ed (c_X11_in (by omega) (by omega) (by omega)) myX11_in mlX11_70 dX11_rule_4 (by decide) (by omega) rfl (by first | exact Nat.le_of_ble_eq_true rfl | simp [vI, vL, vR_cat, Value.category]) ?_
  refine V_ifB_ne (tgt := 12) hx dX11_rule_7 (by decide) (fun h7 => ?_) (fun h7 => ?_)
  · refine V_aload_0 hx dX11_rule_12 ?_
    refine V_v0I hx el ed (c_X11_reads hN hF (by omega) htp) myX11_reads mlX11_186 dX11_rule_13 ⟨_, rfl, rfl⟩ (k49 hN) (by decide) (by omega) rfl (by first | exact Nat.le_of_ble_eq_true rfl | simp [vI, vL, vR_cat, Value.category]) (fun rt N1 I1 ⟨eN1, hF, er, hwt, hfr, hr1, hr2⟩ => ?_)
    subst eN1
    have hsc := fun k : Int => fun h : k ≠ 21 => hfr 49 k (by decide) (by omega)
    refine V_istore_2 hx (by first | exact nc_I | exact nc_R | exact nc_n) dX11_rule_16 ?_
    refine V_aload_0 hx dX11_rule_17 ?_
    refine V_iconst hx dX11_rule_18 ?_
    refine V_putIx 20 hx hF flX11_163 dX11_rule_19 rfl rfl (fun r h => by cases h; rfl) (k49 hN) rfl (by omega) (Or.inl (by decide)) (fun hF => ?_)
    refine V_iconst hx dX11_rule_22 ?_
    refine V_istore_3 hx (by first | exact nc_I | exact nc_R | exact nc_n) dX11_rule_23 ?_
    refine loop_inv (α := Mm) 0 6 (by decide) (fun i M => Fx M ∧ (0 < rt → ∀ k : Int, 0 ≤ k → k < i → M 57 (6 * q + k) = (rdA I).2 k) ∧ (∀ k : Int, ¬ (6 * q ≤ k ∧ k < 6 * q + i ∧ 0 < rt) → M 57 k = I1 57 k) ∧ (∀ a k : Int, a ≠ 57 → M a k = up I1 49 20 0 a k)) (fun i M => V x z _ _ M 0 0 24 [some (vR z 49), some (vI q), some (vI rt), some (vI i)] []) ?_ ?_ _ ⟨hF, fun _ k a b => by omega, fun k _ => by rw [up_c (by decide)], fun a k _ => rfl⟩
    · rintro M ⟨hF, hM1, hM2, hM3⟩
      refine V_iload_3 hx dX11_rule_24 ?_
      refine V_bipush hx dX11_rule_25 (by decide) ?_
      refine V_icmp_ge (tgt := 57) hx dX11_rule_27 (by decide) (by omega) (by omega) (fun h27 => ?_) (fun h27 => ?_)
      · refine V_iload_2 hx dX11_rule_57 ?_
        refine V_ireturn hx dX11_rule_58 (by omega) (by omega) ?_
        refine ⟨_, rfl, rfl, hF, by unfold aRule; rw [cif_t (by omega)]; exact er, fun h => by omega, fun _ => ⟨by rw [hM3 49 20 (by decide)]; exact up_s _ _ _ _, fun k k0 k1 => ?_, fun k hk => ?_, fun a k h1 h2 h3 => ?_⟩⟩
        · by_cases hp : 0 < rt
          · rw [cif_t (by omega)]; exact hM1 hp k k0 (by omega)
          · rw [cif_f (by omega), hM2 _ (by omega)]; exact hfr 57 _ (by decide) (by omega)
        · rw [hM2 k (by omega)]; exact hfr 57 _ (by decide) (by omega)
        · rw [hM3 a k h2, up_n (by omega)]; exact hfr a k h1 (by omega)
      · exfalso; omega
    · rintro i M hi0 hi1 ⟨hF, hM1, hM2, hM3⟩ ih
      refine V_iload_3 hx dX11_rule_24 ?_
      refine V_bipush hx dX11_rule_25 (by decide) ?_
      refine V_icmp_ge (tgt := 57) hx dX11_rule_27 (by decide) (by omega) (by omega) (fun h27 => ?_) (fun h27 => ?_)
      · refine V_iload_2 hx dX11_rule_57 ?_
        refine V_ireturn hx dX11_rule_58 (by omega) (by omega) ?_
        refine ⟨_, rfl, rfl, hF, by unfold aRule; rw [cif_t (by omega)]; exact er, fun h => by omega, fun _ => ⟨by rw [hM3 49 20 (by decide)]; exact up_s _ _ _ _, fun k k0 k1 => ?_, fun k hk => ?_, fun a k h1 h2 h3 => ?_⟩⟩
        · by_cases hp : 0 < rt
          · rw [cif_t (by omega)]; exfalso; omega
          · rw [cif_f (by omega), hM2 _ (by omega)]; exact hfr 57 _ (by decide) (by omega)
        · rw [hM2 k (by omega)]; exact hfr 57 _ (by decide) (by omega)
        · rw [hM3 a k h2, up_n (by omega)]; exact hfr a k h1 (by omega)
      · refine V_iload_2 hx dX11_rule_30 ?_
        refine V_if_le (tgt := 57) hx dX11_rule_31 (by decide) (by omega) (fun h31 => ?_) (fun h31 => ?_)
        · refine V_iload_2 hx dX11_rule_57 ?_
          refine V_ireturn hx dX11_rule_58 (by omega) (by omega) ?_
          refine ⟨_, rfl, rfl, hF, by unfold aRule; rw [cif_t (by omega)]; exact er, fun h => by omega, fun _ => ⟨by rw [hM3 49 20 (by decide)]; exact up_s _ _ _ _, fun k k0 k1 => ?_, fun k hk => ?_, fun a k h1 h2 h3 => ?_⟩⟩
          · by_cases hp : 0 < rt
            · rw [cif_t (by omega)]; exfalso; omega
            · rw [cif_f (by omega), hM2 _ (by omega)]; exact hfr 57 _ (by decide) (by omega)
          · rw [hM2 k (by omega)]; exact hfr 57 _ (by decide) (by omega)
          · rw [hM3 a k h2, up_n (by omega)]; exact hfr a k h1 (by omega)
        · refine V_aload_0 hx dX11_rule_34 ?_
          refine V_getRe hx flX11_31 dX11_rule_35 rfl (k49 hN) (hF.1 49 14 57 rfl) ?_
          refine V_bipush hx dX11_rule_38 (by decide) ?_
          refine V_iload_1 hx dX11_rule_40 ?_
          refine V_imul hx dX11_rule_41 ?_
          refine V_iload_3 hx dX11_rule_42 ?_
          refine V_iadd hx dX11_rule_43 ?_
          refine V_aload_0 hx dX11_rule_44 ?_
          refine V_getRe hx flX11_49 dX11_rule_45 rfl (k49 hN) (hF.1 49 22 63 rfl) ?_
          refine V_iload_3 hx dX11_rule_48 ?_
          refine V_ialoadx hx hF dX11_rule_49 (k63 hN) (by decide) (by omega) (fun r49 => ?_)
          have hb6 := hwt (by omega) i hi0 (by omega)
          have hb7 := hM3 63 i (by decide)
          rw [up_c (by decide)] at hb7
          refine V_iastorex hx hF dX11_rule_50 (k57 hN) (by decide) (by omega) (fx_none rfl _) (by omega) (by omega) (fun hF => ?_)
          refine V_iinc_3 hx (by first | exact nc_I | exact nc_R | exact nc_n) dX11_rule_51 ?_
          refine V_goto (tgt := 24) hx dX11_rule_54 (by decide) ?_
          refine ih _ ⟨hF, fun hp k k0 k1 => ?_, fun k hk => ?_, fun a k h1 => by rw [up_c h1]; exact hM3 a k h1⟩
          · by_cases hk : k = i
            · subst hk; rw [up_s, hM3 63 _ (by decide), up_c (by decide)]; exact (hwt hp _ hi0 (by omega)).1
            · rw [up_k (by omega)]; exact hM1 hp k k0 (by omega)
          · rw [up_k (by omega)]; exact hM2 k (by omega)
  · refine V_iconst hx dX11_rule_10 ?_
    refine V_ireturn hx dX11_rule_11 (by omega) (by omega) ?_
    exact ⟨_, rfl, rfl, hF, by unfold aRule; rw [cif_f (by omega)], fun _ => rfl, fun h => by omega⟩

