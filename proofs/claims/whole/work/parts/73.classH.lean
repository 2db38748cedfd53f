theorem trm_p (t : Int → Int) (n k a : Int) (h0 : 0 ≤ a) (h1 : a ≤ n) : 0 ≤ (trm t n k a).2.1 := by
  have hs := skf_R (t := t) h1
  unfold skR at hs
  unfold trm
  by_cases c : k = 6 ∨ (0 < k ∧ ¬ (sgn t n (skf t n a) = 43 ∨ sgn t n (skf t n a) = 45))
  · rw [cif_t c]; dsimp only; omega
  · rw [cif_f c]
    dsimp only
    have hc := cif01 (sgn t n (skf t n a) = 43 ∨ sgn t n (skf t n a) = 45)
    generalize ha2 : skf t n a + cif (sgn t n (skf t n a) = 43 ∨ sgn t n (skf t n a) = 45) 1 0 = a2
    have hlt : (sgn t n (skf t n a) = 43 ∨ sgn t n (skf t n a) = 45) → skf t n a < n := by
      intro q
      unfold sgn at q
      by_cases c2 : skf t n a < n
      · exact c2
      · rw [cif_f c2] at q; omega
    have h2 : 0 ≤ a2 ∧ a2 ≤ n := by
      by_cases c2 : sgn t n (skf t n a) = 43 ∨ sgn t n (skf t n a) = 45
      · rw [cif_t c2] at ha2; have := hlt c2; omega
      · rw [cif_f c2] at ha2; omega
    have hb := nbr_b (t := t) h2.2
    have hs2 := skf_R (t := t) (n := n) (a := (nbr t n a2).2) hb.2.2.2
    unfold skR at hs2
    by_cases c3 : (nbr t n a2).1 = 0
    · rw [cif_t c3]; dsimp only; omega
    · rw [cif_f c3]
      by_cases c4 : nmF (sgn t n (skf t n (nbr t n a2).2)) = -4
      · rw [cif_t c4]; dsimp only; omega
      · rw [cif_f c4]; dsimp only; omega

set_option maxRecDepth 8000 in
theorem c_X8_readRule {l : Launch} {d : Dd} {z : Nat} {N : Int} {I : Mm} {e : Ee} (hN : 67 ≤ N) (hF : Fx I) (hE : HE d z e) (hT : TpC I) (hw0 : ∀ q : Int, -600 ≤ I 6 q ∧ I 6 q ≤ 600) : Cn l d z yX8_readRule cX8_readRule 4 (some .int) 9 208 0 0 [vR z 4, vR z 6] N I (pI (fun r N' I' => N' = N ∧ Fx I' ∧ r = (rdC I).1 ∧ (0 < r → ∀ q : Int, 0 ≤ q → q ≤ 5 → I' 6 q = (rdC I).2 q) ∧ (∀ q : Int, -600 ≤ I' 6 q ∧ I' 6 q ≤ 600) ∧ (∀ a q : Int, a ≠ 6 → ¬ (a = 4 ∧ q = 2) → I' a q = I a q) ∧ -100 ≤ r ∧ r ≤ 6)) := by
  refine Cn.ofA [(vR z 4, false), (vR z 6, false)] [some (vR z 4), some (vR z 6), none, none] RX8 (by decide) rfl ⟨cR z 4, cR z 6, trivial⟩ (Nat.le_of_ble_eq_true rfl) rfl (fun x ed el hx hini => ?_)
  have hl := hT.1
  have LOOP : ∀ (f : Nat) (k a : Int) (wt : Int → Int) (M : Mm), (f : Int) = 7 - k → 0 ≤ k → k ≤ 6 → Fx M → M 4 1 = I 4 1 → M 5 = I 5 → M 4 2 = skf (I 5) (I 4 1) a → 0 ≤ a → a ≤ I 4 1 → (∀ q : Int, 0 ≤ q → q ≤ 5 → M 6 q = wt q ∧ -(99 * k) ≤ M 6 q ∧ M 6 q ≤ 99 * k) → (∀ q : Int, ¬ (0 ≤ q ∧ q ≤ 5) → M 6 q = I 6 q) → rd (I 5) (I 4 1) f k a wt = rdC I → (∀ a q : Int, a ≠ 6 → ¬ (a = 4 ∧ q = 2) → M a q = I a q) → V x z (pI (fun r N' I' => N' = N ∧ Fx I' ∧ r = (rdC I).1 ∧ (0 < r → ∀ q : Int, 0 ≤ q → q ≤ 5 → I' 6 q = (rdC I).2 q) ∧ (∀ q : Int, -600 ≤ I' 6 q ∧ I' 6 q ≤ 600) ∧ (∀ a q : Int, a ≠ 6 → ¬ (a = 4 ∧ q = 2) → I' a q = I a q) ∧ -100 ≤ r ∧ r ≤ 6)) N M 0 0 12 [some (vR z 4), some (vR z 6), some (vI k), none] [] := by
    intro f
    induction f with
    | zero => intro k a wt M hf k0 k1; exfalso; omega
    | succ f ih =>
      intro k a wt M hf k0 k1 hF m1 m5 m2 a0 a1 hM hO hrd hfr
      have hTM : TpC M := TpC_of hT m1 m5
      have hsk := skf_R (t := I 5) (n := I 4 1) (a := a) a1
      unfold skR at hsk
      have hs := sg0_b hT (a := skf (I 5) (I 4 1) a) (by omega)
      have hwM : ∀ q : Int, -600 ≤ M 6 q ∧ M 6 q ≤ 600 := by
        intro q
        by_cases c : 0 ≤ q ∧ q ≤ 5
        · have := hM q c.1 c.2; omega
        · rw [hO q c]; exact hw0 q
      have etm : trm (M 5) (M 4 1) k (M 4 2) = trm (I 5) (I 4 1) k a := by rw [m5, m1, m2]; exact trm_sk k a1
      rw [rd] at hrd
      refine V_iload_2 hx dX8_readRule_12 ?_
      refine V_bipush hx dX8_readRule_13 (by decide) ?_
      refine V_icmp_ge (tgt := 60) hx dX8_readRule_15 (by decide) (by omega) (by omega) (fun h15 => ?_) (fun h15 => ?_)
      · refine V_aload_0 hx dX8_readRule_60 ?_
        refine V_getIx 2 hx hF flX8_33 dX8_readRule_61 rfl rfl (k4 hN) (fun r61 => ?_)
        refine V_aload_0 hx dX8_readRule_64 ?_
        refine V_getIx 1 hx hF flX8_19 dX8_readRule_65 rfl rfl (k4 hN) (fun r65 => ?_)
        refine V_icmp_ge (tgt := 81) hx dX8_readRule_68 (by decide) (by omega) (by omega) (fun h68 => ?_) (fun h68 => ?_)
        · refine V_iload_2 hx dX8_readRule_81 ?_
          refine V_ireturn hx dX8_readRule_82 (by omega) (by omega) ?_
          first
            | (exfalso; omega)
            | (rw [cif_t (by omega)] at hrd
               exact ⟨_, rfl, rfl, hF, by rw [← hrd], fun _ q q0 q1 => by rw [← hrd]; exact (hM q q0 q1).1, hwM, hfr, by omega, by omega⟩)
            | (have et : trm (I 5) (I 4 1) k a = (-1, skf (I 5) (I 4 1) a, 0) := by rw [← trm_sk k a1]; exact trm_f (skf_id a1) (by omega)
               rw [cif_f (by omega), cif_t (by rw [et])] at hrd
               exact ⟨_, rfl, rfl, hF, by rw [← hrd, et, m2], fun h => by omega, hwM, hfr, by omega, by omega⟩)
        · refine V_aload_0 hx dX8_readRule_71 ?_
          refine V_getIx 2 hx hF flX8_33 dX8_readRule_72 rfl rfl (k4 hN) (fun r72 => ?_)
          refine V_s1P hx el ed c_X8_faultAt myX8_faultAt mlX8_40 dX8_readRule_75 (by decide) (by omega) rfl (by first | exact Nat.le_of_ble_eq_true rfl | simp [vI, vL, vR_cat, Value.category]) ?_
          refine V_goto (tgt := 82) hx dX8_readRule_78 (by decide) ?_
          refine V_ireturn hx dX8_readRule_82 (by omega) (by omega) ?_
          first
            | (exfalso; omega)
            | (rw [cif_t (by omega)] at hrd
               exact ⟨_, rfl, rfl, hF, by rw [← hrd], fun _ q q0 q1 => by rw [← hrd]; exact (hM q q0 q1).1, hwM, hfr, by omega, by omega⟩)
            | (have et : trm (I 5) (I 4 1) k a = (-1, skf (I 5) (I 4 1) a, 0) := by rw [← trm_sk k a1]; exact trm_f (skf_id a1) (by omega)
               rw [cif_f (by omega), cif_t (by rw [et])] at hrd
               exact ⟨_, rfl, rfl, hF, by rw [← hrd, et, m2], fun h => by omega, hwM, hfr, by omega, by omega⟩)
      · refine V_iload_2 hx dX8_readRule_18 ?_
        refine V_if_eq (tgt := 33) hx dX8_readRule_19 (by decide) (by omega) (fun h19 => ?_) (fun h19 => ?_)
        · refine V_aload_0 hx dX8_readRule_33 ?_
          refine V_aload_1 hx dX8_readRule_34 ?_
          refine V_iload_2 hx dX8_readRule_35 ?_
          refine V_if_ne (tgt := 43) hx dX8_readRule_36 (by decide) (by omega) (fun h36 => ?_) (fun h36 => ?_)
          · refine V_iconst hx dX8_readRule_43 ?_
            refine V_v2I hx el ed (c_X8_readTerm (k := k) hN hF hE hTM (by omega) (by rw [m5, m1, m2]; exact skf_id a1) (fun q q0 q1 => by have := hM q q0 q1; omega) (by omega)) myX8_readTerm mlX8_36 dX8_readRule_44 ⟨_, rfl, rfl⟩ (k4 hN) (by decide) (by omega) rfl (by first | exact Nat.le_of_ble_eq_true rfl | simp [vI, vL, vR_cat, Value.category]) (fun r N1 I1 ⟨eN, hF, htr, r0, r1⟩ => ?_)
            unfold trR at htr
            rw [etm] at htr
            subst eN
            refine V_istore_3 hx (by first | exact nc_I | exact nc_R | exact nc_n) dX8_readRule_47 ?_
            refine V_iload_3 hx dX8_readRule_48 ?_
            refine V_if_ge (tgt := 54) hx dX8_readRule_49 (by decide) (by omega) (fun h49 => ?_) (fun h49 => ?_)
            · refine V_iinc_2 hx (by first | exact nc_I | exact nc_R | exact nc_n) dX8_readRule_54 ?_
              refine V_goto (tgt := 12) hx dX8_readRule_57 (by decide) ?_
              by_cases h1 : (trm (I 5) (I 4 1) k a).1 = -1
              · exfalso
                have h2 := (htr.1 h1).1
                have h3 := trm_p (I 5) (I 4 1) k a a0 a1
                omega
              obtain ⟨e0, ⟨b1, b2⟩, ⟨c1, c2⟩, ⟨d1, d2⟩, e2, e6, efr⟩ := htr.2 h1
              rw [m1] at c2
              rw [m5, m1] at e2
              rw [cif_f (by omega), cif_f h1] at hrd
              refine V_drop_3 ?_
              refine ih (k + 1) (trm (I 5) (I 4 1) k a).2.1 _ I1 (by omega) (by omega) (by omega) hF (by rw [efr 4 1 (by decide) (by decide)]; exact m1) (by funext q; rw [efr 5 q (by decide) (by omega), m5]) e2 (by omega) c2 (fun q q0 q1 => ?_) (fun q hq => ?_) hrd (fun a q ha hq => by rw [efr a q ha hq]; exact hfr a q ha hq)
              · have hq := hM q q0 q1
                rw [e6 q, hq.1]
                by_cases c : q = (trm (I 5) (I 4 1) k a).1 - 1
                · rw [cif_t c]; refine ⟨rfl, by omega, by omega⟩
                · rw [cif_f c]; refine ⟨rfl, by omega, by omega⟩
              · rw [e6 q, cif_f (by omega)]; exact hO q hq
            · refine V_iload_3 hx dX8_readRule_52 ?_
              refine V_ireturn hx dX8_readRule_53 (by omega) (by omega) ?_
              have h1 : (trm (I 5) (I 4 1) k a).1 = -1 := Classical.byContradiction (fun h => by have := (htr.2 h).1; omega)
              obtain ⟨e1, e2⟩ := htr.1 h1
              rw [cif_f (by omega), cif_t h1] at hrd
              refine ⟨_, rfl, rfl, hF, by rw [← hrd]; exact e1, fun h => by omega, fun q => by rw [e2 6 q (by omega)]; exact hwM q, fun a q ha hq => by rw [e2 a q hq]; exact hfr a q ha hq, by omega, by omega⟩
          · refine V_iconst hx dX8_readRule_39 ?_
            refine V_goto (tgt := 44) hx dX8_readRule_40 (by decide) ?_
            refine V_v2I hx el ed (c_X8_readTerm (k := k) hN hF hE hTM (by omega) (by rw [m5, m1, m2]; exact skf_id a1) (fun q q0 q1 => by have := hM q q0 q1; omega) (by omega)) myX8_readTerm mlX8_36 dX8_readRule_44 ⟨_, rfl, rfl⟩ (k4 hN) (by decide) (by omega) rfl (by first | exact Nat.le_of_ble_eq_true rfl | simp [vI, vL, vR_cat, Value.category]) (fun r N1 I1 ⟨eN, hF, htr, r0, r1⟩ => ?_)
            unfold trR at htr
            rw [etm] at htr
            subst eN
            refine V_istore_3 hx (by first | exact nc_I | exact nc_R | exact nc_n) dX8_readRule_47 ?_
            refine V_iload_3 hx dX8_readRule_48 ?_
            refine V_if_ge (tgt := 54) hx dX8_readRule_49 (by decide) (by omega) (fun h49 => ?_) (fun h49 => ?_)
            · refine V_iinc_2 hx (by first | exact nc_I | exact nc_R | exact nc_n) dX8_readRule_54 ?_
              refine V_goto (tgt := 12) hx dX8_readRule_57 (by decide) ?_
              by_cases h1 : (trm (I 5) (I 4 1) k a).1 = -1
              · exfalso
                have h2 := (htr.1 h1).1
                have h3 := trm_p (I 5) (I 4 1) k a a0 a1
                omega
              obtain ⟨e0, ⟨b1, b2⟩, ⟨c1, c2⟩, ⟨d1, d2⟩, e2, e6, efr⟩ := htr.2 h1
              rw [m1] at c2
              rw [m5, m1] at e2
              rw [cif_f (by omega), cif_f h1] at hrd
              refine V_drop_3 ?_
              refine ih (k + 1) (trm (I 5) (I 4 1) k a).2.1 _ I1 (by omega) (by omega) (by omega) hF (by rw [efr 4 1 (by decide) (by decide)]; exact m1) (by funext q; rw [efr 5 q (by decide) (by omega), m5]) e2 (by omega) c2 (fun q q0 q1 => ?_) (fun q hq => ?_) hrd (fun a q ha hq => by rw [efr a q ha hq]; exact hfr a q ha hq)
              · have hq := hM q q0 q1
                rw [e6 q, hq.1]
                by_cases c : q = (trm (I 5) (I 4 1) k a).1 - 1
                · rw [cif_t c]; refine ⟨rfl, by omega, by omega⟩
                · rw [cif_f c]; refine ⟨rfl, by omega, by omega⟩
              · rw [e6 q, cif_f (by omega)]; exact hO q hq
            · refine V_iload_3 hx dX8_readRule_52 ?_
              refine V_ireturn hx dX8_readRule_53 (by omega) (by omega) ?_
              have h1 : (trm (I 5) (I 4 1) k a).1 = -1 := Classical.byContradiction (fun h => by have := (htr.2 h).1; omega)
              obtain ⟨e1, e2⟩ := htr.1 h1
              rw [cif_f (by omega), cif_t h1] at hrd
              refine ⟨_, rfl, rfl, hF, by rw [← hrd]; exact e1, fun h => by omega, fun q => by rw [e2 6 q (by omega)]; exact hwM q, fun a q ha hq => by rw [e2 a q hq]; exact hfr a q ha hq, by omega, by omega⟩
        · refine V_aload_0 hx dX8_readRule_22 ?_
          refine V_getIx 2 hx hF flX8_33 dX8_readRule_23 rfl rfl (k4 hN) (fun r23 => ?_)
          refine V_aload_0 hx dX8_readRule_26 ?_
          refine V_getIx 1 hx hF flX8_19 dX8_readRule_27 rfl rfl (k4 hN) (fun r27 => ?_)
          refine V_icmp_ge (tgt := 60) hx dX8_readRule_30 (by decide) (by omega) (by omega) (fun h30 => ?_) (fun h30 => ?_)
          · refine V_aload_0 hx dX8_readRule_60 ?_
            refine V_getIx 2 hx hF flX8_33 dX8_readRule_61 rfl rfl (k4 hN) (fun r61 => ?_)
            refine V_aload_0 hx dX8_readRule_64 ?_
            refine V_getIx 1 hx hF flX8_19 dX8_readRule_65 rfl rfl (k4 hN) (fun r65 => ?_)
            refine V_icmp_ge (tgt := 81) hx dX8_readRule_68 (by decide) (by omega) (by omega) (fun h68 => ?_) (fun h68 => ?_)
            · refine V_iload_2 hx dX8_readRule_81 ?_
              refine V_ireturn hx dX8_readRule_82 (by omega) (by omega) ?_
              first
                | (exfalso; omega)
                | (rw [cif_t (by omega)] at hrd
                   exact ⟨_, rfl, rfl, hF, by rw [← hrd], fun _ q q0 q1 => by rw [← hrd]; exact (hM q q0 q1).1, hwM, hfr, by omega, by omega⟩)
                | (have et : trm (I 5) (I 4 1) k a = (-1, skf (I 5) (I 4 1) a, 0) := by rw [← trm_sk k a1]; exact trm_f (skf_id a1) (by omega)
                   rw [cif_f (by omega), cif_t (by rw [et])] at hrd
                   exact ⟨_, rfl, rfl, hF, by rw [← hrd, et, m2], fun h => by omega, hwM, hfr, by omega, by omega⟩)
            · refine V_aload_0 hx dX8_readRule_71 ?_
              refine V_getIx 2 hx hF flX8_33 dX8_readRule_72 rfl rfl (k4 hN) (fun r72 => ?_)
              refine V_s1P hx el ed c_X8_faultAt myX8_faultAt mlX8_40 dX8_readRule_75 (by decide) (by omega) rfl (by first | exact Nat.le_of_ble_eq_true rfl | simp [vI, vL, vR_cat, Value.category]) ?_
              refine V_goto (tgt := 82) hx dX8_readRule_78 (by decide) ?_
              refine V_ireturn hx dX8_readRule_82 (by omega) (by omega) ?_
              first
                | (exfalso; omega)
                | (rw [cif_t (by omega)] at hrd
                   exact ⟨_, rfl, rfl, hF, by rw [← hrd], fun _ q q0 q1 => by rw [← hrd]; exact (hM q q0 q1).1, hwM, hfr, by omega, by omega⟩)
                | (have et : trm (I 5) (I 4 1) k a = (-1, skf (I 5) (I 4 1) a, 0) := by rw [← trm_sk k a1]; exact trm_f (skf_id a1) (by omega)
                   rw [cif_f (by omega), cif_t (by rw [et])] at hrd
                   exact ⟨_, rfl, rfl, hF, by rw [← hrd, et, m2], fun h => by omega, hwM, hfr, by omega, by omega⟩)
          · refine V_aload_0 hx dX8_readRule_33 ?_
            refine V_aload_1 hx dX8_readRule_34 ?_
            refine V_iload_2 hx dX8_readRule_35 ?_
            refine V_if_ne (tgt := 43) hx dX8_readRule_36 (by decide) (by omega) (fun h36 => ?_) (fun h36 => ?_)
            · refine V_iconst hx dX8_readRule_43 ?_
              refine V_v2I hx el ed (c_X8_readTerm (k := k) hN hF hE hTM (by omega) (by rw [m5, m1, m2]; exact skf_id a1) (fun q q0 q1 => by have := hM q q0 q1; omega) (by omega)) myX8_readTerm mlX8_36 dX8_readRule_44 ⟨_, rfl, rfl⟩ (k4 hN) (by decide) (by omega) rfl (by first | exact Nat.le_of_ble_eq_true rfl | simp [vI, vL, vR_cat, Value.category]) (fun r N1 I1 ⟨eN, hF, htr, r0, r1⟩ => ?_)
              unfold trR at htr
              rw [etm] at htr
              subst eN
              refine V_istore_3 hx (by first | exact nc_I | exact nc_R | exact nc_n) dX8_readRule_47 ?_
              refine V_iload_3 hx dX8_readRule_48 ?_
              refine V_if_ge (tgt := 54) hx dX8_readRule_49 (by decide) (by omega) (fun h49 => ?_) (fun h49 => ?_)
              · refine V_iinc_2 hx (by first | exact nc_I | exact nc_R | exact nc_n) dX8_readRule_54 ?_
                refine V_goto (tgt := 12) hx dX8_readRule_57 (by decide) ?_
                by_cases h1 : (trm (I 5) (I 4 1) k a).1 = -1
                · exfalso
                  have h2 := (htr.1 h1).1
                  have h3 := trm_p (I 5) (I 4 1) k a a0 a1
                  omega
                obtain ⟨e0, ⟨b1, b2⟩, ⟨c1, c2⟩, ⟨d1, d2⟩, e2, e6, efr⟩ := htr.2 h1
                rw [m1] at c2
                rw [m5, m1] at e2
                rw [cif_f (by omega), cif_f h1] at hrd
                refine V_drop_3 ?_
                refine ih (k + 1) (trm (I 5) (I 4 1) k a).2.1 _ I1 (by omega) (by omega) (by omega) hF (by rw [efr 4 1 (by decide) (by decide)]; exact m1) (by funext q; rw [efr 5 q (by decide) (by omega), m5]) e2 (by omega) c2 (fun q q0 q1 => ?_) (fun q hq => ?_) hrd (fun a q ha hq => by rw [efr a q ha hq]; exact hfr a q ha hq)
                · have hq := hM q q0 q1
                  rw [e6 q, hq.1]
                  by_cases c : q = (trm (I 5) (I 4 1) k a).1 - 1
                  · rw [cif_t c]; refine ⟨rfl, by omega, by omega⟩
                  · rw [cif_f c]; refine ⟨rfl, by omega, by omega⟩
                · rw [e6 q, cif_f (by omega)]; exact hO q hq
              · refine V_iload_3 hx dX8_readRule_52 ?_
                refine V_ireturn hx dX8_readRule_53 (by omega) (by omega) ?_
                have h1 : (trm (I 5) (I 4 1) k a).1 = -1 := Classical.byContradiction (fun h => by have := (htr.2 h).1; omega)
                obtain ⟨e1, e2⟩ := htr.1 h1
                rw [cif_f (by omega), cif_t h1] at hrd
                refine ⟨_, rfl, rfl, hF, by rw [← hrd]; exact e1, fun h => by omega, fun q => by rw [e2 6 q (by omega)]; exact hwM q, fun a q ha hq => by rw [e2 a q hq]; exact hfr a q ha hq, by omega, by omega⟩
            · refine V_iconst hx dX8_readRule_39 ?_
              refine V_goto (tgt := 44) hx dX8_readRule_40 (by decide) ?_
              refine V_v2I hx el ed (c_X8_readTerm (k := k) hN hF hE hTM (by omega) (by rw [m5, m1, m2]; exact skf_id a1) (fun q q0 q1 => by have := hM q q0 q1; omega) (by omega)) myX8_readTerm mlX8_36 dX8_readRule_44 ⟨_, rfl, rfl⟩ (k4 hN) (by decide) (by omega) rfl (by first | exact Nat.le_of_ble_eq_true rfl | simp [vI, vL, vR_cat, Value.category]) (fun r N1 I1 ⟨eN, hF, htr, r0, r1⟩ => ?_)
              unfold trR at htr
              rw [etm] at htr
              subst eN
              refine V_istore_3 hx (by first | exact nc_I | exact nc_R | exact nc_n) dX8_readRule_47 ?_
              refine V_iload_3 hx dX8_readRule_48 ?_
              refine V_if_ge (tgt := 54) hx dX8_readRule_49 (by decide) (by omega) (fun h49 => ?_) (fun h49 => ?_)
              · refine V_iinc_2 hx (by first | exact nc_I | exact nc_R | exact nc_n) dX8_readRule_54 ?_
                refine V_goto (tgt := 12) hx dX8_readRule_57 (by decide) ?_
                by_cases h1 : (trm (I 5) (I 4 1) k a).1 = -1
                · exfalso
                  have h2 := (htr.1 h1).1
                  have h3 := trm_p (I 5) (I 4 1) k a a0 a1
                  omega
                obtain ⟨e0, ⟨b1, b2⟩, ⟨c1, c2⟩, ⟨d1, d2⟩, e2, e6, efr⟩ := htr.2 h1
                rw [m1] at c2
                rw [m5, m1] at e2
                rw [cif_f (by omega), cif_f h1] at hrd
                refine V_drop_3 ?_
                refine ih (k + 1) (trm (I 5) (I 4 1) k a).2.1 _ I1 (by omega) (by omega) (by omega) hF (by rw [efr 4 1 (by decide) (by decide)]; exact m1) (by funext q; rw [efr 5 q (by decide) (by omega), m5]) e2 (by omega) c2 (fun q q0 q1 => ?_) (fun q hq => ?_) hrd (fun a q ha hq => by rw [efr a q ha hq]; exact hfr a q ha hq)
                · have hq := hM q q0 q1
                  rw [e6 q, hq.1]
                  by_cases c : q = (trm (I 5) (I 4 1) k a).1 - 1
                  · rw [cif_t c]; refine ⟨rfl, by omega, by omega⟩
                  · rw [cif_f c]; refine ⟨rfl, by omega, by omega⟩
                · rw [e6 q, cif_f (by omega)]; exact hO q hq
              · refine V_iload_3 hx dX8_readRule_52 ?_
                refine V_ireturn hx dX8_readRule_53 (by omega) (by omega) ?_
                have h1 : (trm (I 5) (I 4 1) k a).1 = -1 := Classical.byContradiction (fun h => by have := (htr.2 h).1; omega)
                obtain ⟨e1, e2⟩ := htr.1 h1
                rw [cif_f (by omega), cif_t h1] at hrd
                refine ⟨_, rfl, rfl, hF, by rw [← hrd]; exact e1, fun h => by omega, fun q => by rw [e2 6 q (by omega)]; exact hwM q, fun a q ha hq => by rw [e2 a q hq]; exact hfr a q ha hq, by omega, by omega⟩
  refine V_aload_1 hx dX8_readRule_0 ?_
  refine V_iconst hx dX8_readRule_1 ?_
  refine V_s2N hx el ed (c_J7_fill_53178 hF (k6 hN) (by decide) rfl (by omega) (by decide)) myJ7_fill_53178 mlX8_23 dX8_readRule_2 (by decide) (by omega) rfl (by first | exact Nat.le_of_ble_eq_true rfl | simp [vI, vL, vR_cat, Value.category]) (fun N1 I1 ⟨eN, eI, hF⟩ => ?_)
  subst eN
  have hT1 : TpC I1 := TpC_of hT (by rw [eI, filR_row (by decide)]) (by rw [eI, filR_row (by decide)])
  have e41 : I1 4 1 = I 4 1 := by rw [eI, filR_row (by decide)]
  have e5 : I1 5 = I 5 := by rw [eI, filR_row (by decide)]
  refine V_aload_0 hx dX8_readRule_5 ?_
  refine V_iconst hx dX8_readRule_6 ?_
  refine V_v1N hx el ed (c_X8_goTo hN hF hT1 (by omega)) myX8_goTo mlX8_29 dX8_readRule_7 ⟨_, rfl, rfl⟩ (k4 hN) (by decide) (by omega) rfl (by first | exact Nat.le_of_ble_eq_true rfl | simp [vI, vL, vR_cat, Value.category]) (fun N2 I2 ⟨eN, eI2, hF⟩ => ?_)
  rw [e5, e41] at eI2
  subst eN
  refine V_iconst hx dX8_readRule_10 ?_
  refine V_istore_2 hx (by first | exact nc_I | exact nc_R | exact nc_n) dX8_readRule_11 ?_
  have g6 : ∀ q : Int, I2 6 q = I1 6 q := fun q => by rw [eI2, up_c (by decide)]
  refine LOOP 7 0 0 (fun _ => 0) I2 (by omega) (by omega) (by omega) hF (by rw [eI2, up_k (by decide)]; exact e41) (by rw [eI2, up_row (by decide)]; exact e5) (by rw [eI2, up_s]) (by omega) (by omega) (fun q q0 q1 => ?_) (fun q hq => ?_) rfl (fun a q ha hq => ?_)
  · rw [g6, eI, filR_in (by omega)]; refine ⟨rfl, by omega, by omega⟩
  · rw [g6, eI, filR_out (by omega)]
  · rw [eI2, up_n (by omega), eI, filR_row ha]

