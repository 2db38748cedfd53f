set_option maxRecDepth 8000 in
theorem c_X11_termOf {l : Launch} {d : Dd} {z : Nat} {N : Int} {I : Mm} {k : Int} (hk : 0 ≤ k ∧ k < 1000) : Cn l d z yX11_termOf cX11_termOf 1 (some .int) 0 0 0 0 [vI k] N I (pq (tm k) N I) := by
  refine Cn.ofA [(vI k, false)] [some (vI k)] RX11 (by decide) rfl ⟨rfl, trivial⟩ (Nat.le_of_ble_eq_true rfl) rfl (fun x ed el hx hini => ?_)
  refine V_bipush hx dX11_termOf_0 (by decide) ?_
  refine V_iload_0 hx dX11_termOf_2 ?_
  refine V_iconst hx dX11_termOf_3 ?_
  refine V_irem hx dX11_termOf_4 (by omega) (by omega) ?_
  refine V_iconst hx dX11_termOf_5 ?_
  refine V_iadd hx dX11_termOf_6 ?_
  refine V_imul hx dX11_termOf_7 ?_
  refine V_iload_0 hx dX11_termOf_8 ?_
  refine V_iconst hx dX11_termOf_9 ?_
  refine V_idiv hx dX11_termOf_10 (by omega) (by omega) ?_
  refine V_iadd hx dX11_termOf_11 ?_
  refine V_iconst hx dX11_termOf_12 ?_
  refine V_iadd hx dX11_termOf_13 ?_
  refine V_ireturn hx dX11_termOf_14 (by omega) (by omega) ?_
  exact ⟨rfl, rfl, rfl, by unfold tm; omega⟩

set_option maxRecDepth 8000 in
theorem c_X11_isTwice {l : Launch} {d : Dd} {z : Nat} {N : Int} {I : Mm} {n : Int} (hN : 67 ≤ N) (hF : Fx I) (hn : 0 ≤ n ∧ n ≤ 24) : Cn l d z yX11_isTwice cX11_isTwice 5 (some .boolean) 0 0 0 0 [vR z 49, vI n] N I (pv (vB (dup (I 61) n)) N I) := by
  refine Cn.ofA [(vR z 49, false), (vI n, false)] [some (vR z 49), some (vI n), none, none, none] RX11 (by decide) rfl ⟨cR z 49, rfl, trivial⟩ (Nat.le_of_ble_eq_true rfl) rfl (fun x ed el hx hini => ?_)
  refine V_iconst hx dX11_isTwice_0 ?_
  refine V_istore_2 hx (by first | exact nc_I | exact nc_R | exact nc_n) dX11_isTwice_1 ?_
  refine V_iconst hx dX11_isTwice_2 ?_
  refine V_istore_3 hx (by first | exact nc_I | exact nc_R | exact nc_n) dX11_isTwice_3 ?_
  refine loop_inv (α := Int) 0 n hn.1 (fun b w => (w = 0 ∧ ¬ dup (I 61) b) ∨ (w = 1 ∧ dup (I 61) b)) (fun b w => V x z _ N I 0 0 4 [some (vR z 49), some (vI n), some (vI w), some (vI b), none] []) ?_ ?_ 0 (Or.inl ⟨rfl, fun ⟨a, b, h1, h2, h3, h4⟩ => by omega⟩)
  · rintro w hJ
    have hwb : w = 0 ∨ w = 1 := by rcases hJ with h | h <;> omega
    refine V_iload_3 hx dX11_isTwice_4 ?_
    refine V_iload_1 hx dX11_isTwice_5 ?_
    refine V_icmp_ge (tgt := 56) hx dX11_isTwice_6 (by decide) (by omega) (by omega) (fun h6 => ?_) (fun h6 => ?_)
    · refine V_iload_2 hx dX11_isTwice_56 ?_
      refine V_zreturn hx dX11_isTwice_57 (by first | omega | exact cif01 _) (by omega) (by omega) ?_
      rcases hJ with ⟨h1, h2⟩ | ⟨h1, h2⟩
      · subst h1; exact ⟨by rw [vB_f h2], rfl, rfl⟩
      · subst h1; exact ⟨by rw [vB_t h2], rfl, rfl⟩
    · exfalso; omega
  · rintro b w hb0 hb1 hJ ih0
    refine V_iload_3 hx dX11_isTwice_4 ?_
    refine V_iload_1 hx dX11_isTwice_5 ?_
    refine V_icmp_ge (tgt := 56) hx dX11_isTwice_6 (by decide) (by omega) (by omega) (fun h6 => ?_) (fun h6 => ?_)
    · exfalso; omega
    · refine V_iconst hx dX11_isTwice_9 ?_
      refine V_istore_4 hx (by first | exact nc_I | exact nc_R | exact nc_n) dX11_isTwice_10 ?_
      refine loop_inv (α := Int) 0 b hb0 (fun a w => (w = 0 ∧ ¬ (dup (I 61) b ∨ ∃ q : Int, 0 ≤ q ∧ q < a ∧ I 61 q = I 61 b)) ∨ (w = 1 ∧ (dup (I 61) b ∨ ∃ q : Int, 0 ≤ q ∧ q < a ∧ I 61 q = I 61 b))) (fun a w => V x z _ N I 0 0 12 [some (vR z 49), some (vI n), some (vI w), some (vI b), some (vI a)] []) ?_ ?_ w (by rcases hJ with ⟨h1, h2⟩ | ⟨h1, h2⟩; exact Or.inl ⟨h1, fun q => q.elim h2 (fun ⟨a, a0, a1, _⟩ => by omega)⟩; exact Or.inr ⟨h1, Or.inl h2⟩)
      · rintro w2 hJ2
        refine V_iload_4 hx dX11_isTwice_12 ?_
        refine V_iload_3 hx dX11_isTwice_14 ?_
        refine V_icmp_ge (tgt := 50) hx dX11_isTwice_15 (by decide) (by omega) (by omega) (fun h15 => ?_) (fun h15 => ?_)
        · refine V_iinc_3 hx (by first | exact nc_I | exact nc_R | exact nc_n) dX11_isTwice_50 ?_
          refine V_goto (tgt := 4) hx dX11_isTwice_53 (by decide) ?_
          refine V_drop_4 ?_
          exact ih0 _ (by rw [dup_s hb0]; exact hJ2)
        · exfalso; omega
      · rintro a w2 ha0 ha1 hJ2 ih
        have hwb : w2 = 0 ∨ w2 = 1 := by rcases hJ2 with h | h <;> omega
        refine V_iload_4 hx dX11_isTwice_12 ?_
        refine V_iload_3 hx dX11_isTwice_14 ?_
        refine V_icmp_ge (tgt := 50) hx dX11_isTwice_15 (by decide) (by omega) (by omega) (fun h15 => ?_) (fun h15 => ?_)
        · exfalso; omega
        · refine V_iload_2 hx dX11_isTwice_18 ?_
          refine V_if_ne (tgt := 38) hx dX11_isTwice_19 (by decide) (by omega) (fun h19 => ?_) (fun h19 => ?_)
          · refine V_iconst hx dX11_isTwice_38 ?_
            refine V_goto (tgt := 43) hx dX11_isTwice_39 (by decide) ?_
            refine V_istore_2 hx (by first | exact nc_I | exact nc_R | exact nc_n) dX11_isTwice_43 ?_
            refine V_iinc_4 hx (by first | exact nc_I | exact nc_R | exact nc_n) dX11_isTwice_44 ?_
            refine V_goto (tgt := 12) hx dX11_isTwice_47 (by decide) ?_
            first
              | exact ih 1 (Or.inr ⟨rfl, by rcases hJ2 with ⟨g1, g2⟩ | ⟨g1, g2⟩; exact Or.inr ⟨a, ha0, by omega, by omega⟩; exact g2.imp id (fun ⟨q, q0, q1, q2⟩ => ⟨q, q0, by omega, q2⟩)⟩)
              | exact ih 0 (Or.inl ⟨rfl, fun q => by rcases hJ2 with ⟨g1, g2⟩ | ⟨g1, g2⟩; (rcases q with q | ⟨q, q0, q1, q2⟩; exact g2 (Or.inl q); (by_cases hq : q = a; (subst hq; omega); exact g2 (Or.inr ⟨q, q0, by omega, q2⟩))); omega⟩)
          · refine V_aload_0 hx dX11_isTwice_22 ?_
            refine V_getRe hx flX11_43 dX11_isTwice_23 rfl (k49 hN) (hF.1 49 18 61 rfl) ?_
            refine V_iload_4 hx dX11_isTwice_26 ?_
            refine V_ialoadx hx hF dX11_isTwice_28 (k61 hN) (by decide) (by omega) (fun r28 => ?_)
            refine V_aload_0 hx dX11_isTwice_29 ?_
            refine V_getRe hx flX11_43 dX11_isTwice_30 rfl (k49 hN) (hF.1 49 18 61 rfl) ?_
            refine V_iload_3 hx dX11_isTwice_33 ?_
            refine V_ialoadx hx hF dX11_isTwice_34 (k61 hN) (by decide) (by omega) (fun r34 => ?_)
            refine V_icmp_ne (tgt := 42) hx dX11_isTwice_35 (by decide) (by omega) (by omega) (fun h35 => ?_) (fun h35 => ?_)
            · refine V_iconst hx dX11_isTwice_42 ?_
              refine V_istore_2 hx (by first | exact nc_I | exact nc_R | exact nc_n) dX11_isTwice_43 ?_
              refine V_iinc_4 hx (by first | exact nc_I | exact nc_R | exact nc_n) dX11_isTwice_44 ?_
              refine V_goto (tgt := 12) hx dX11_isTwice_47 (by decide) ?_
              first
                | exact ih 1 (Or.inr ⟨rfl, by rcases hJ2 with ⟨g1, g2⟩ | ⟨g1, g2⟩; exact Or.inr ⟨a, ha0, by omega, by omega⟩; exact g2.imp id (fun ⟨q, q0, q1, q2⟩ => ⟨q, q0, by omega, q2⟩)⟩)
                | exact ih 0 (Or.inl ⟨rfl, fun q => by rcases hJ2 with ⟨g1, g2⟩ | ⟨g1, g2⟩; (rcases q with q | ⟨q, q0, q1, q2⟩; exact g2 (Or.inl q); (by_cases hq : q = a; (subst hq; omega); exact g2 (Or.inr ⟨q, q0, by omega, q2⟩))); omega⟩)
            · refine V_iconst hx dX11_isTwice_38 ?_
              refine V_goto (tgt := 43) hx dX11_isTwice_39 (by decide) ?_
              refine V_istore_2 hx (by first | exact nc_I | exact nc_R | exact nc_n) dX11_isTwice_43 ?_
              refine V_iinc_4 hx (by first | exact nc_I | exact nc_R | exact nc_n) dX11_isTwice_44 ?_
              refine V_goto (tgt := 12) hx dX11_isTwice_47 (by decide) ?_
              first
                | exact ih 1 (Or.inr ⟨rfl, by rcases hJ2 with ⟨g1, g2⟩ | ⟨g1, g2⟩; exact Or.inr ⟨a, ha0, by omega, by omega⟩; exact g2.imp id (fun ⟨q, q0, q1, q2⟩ => ⟨q, q0, by omega, q2⟩)⟩)
                | exact ih 0 (Or.inl ⟨rfl, fun q => by rcases hJ2 with ⟨g1, g2⟩ | ⟨g1, g2⟩; (rcases q with q | ⟨q, q0, q1, q2⟩; exact g2 (Or.inl q); (by_cases hq : q = a; (subst hq; omega); exact g2 (Or.inr ⟨q, q0, by omega, q2⟩))); omega⟩)

set_option maxRecDepth 8000 in
theorem c_X11_makes {l : Launch} {d : Dd} {z : Nat} {N : Int} {I : Mm} {n o t : Int} (hN : 67 ≤ N) (hF : Fx I) (hn : 2 ≤ n ∧ n ≤ 8) (ho : okT o) (ht : t = 0 ∨ okT t) (hm : I 49 6 ≤ 1000) (hg : ∀ q : Int, 0 ≤ q → q < n → 0 ≤ I 61 q ∧ I 61 q < I 49 6) (hW : ∀ w c : Int, 0 ≤ w → w < I 49 6 → 0 ≤ c → c ≤ 3 → 0 ≤ I 55 (13 * w + c) ∧ I 55 (13 * w + c) ≤ 200000) (htr : -2147483648 ≤ t ∧ t ≤ 2147483647) : Cn l d z yX11_makes cX11_makes 9 (some .boolean) 1 22 0 0 [vR z 49, vI n, vI o, vI t] N I (pv (vB (mks I (I 61) n o t)) N I) := by
  refine Cn.ofA [(vR z 49, false), (vI n, false), (vI o, false), (vI t, false)] [some (vR z 49), some (vI n), some (vI o), some (vI t), none, none, none, none, none] RX11 (by decide) rfl ⟨cR z 49, rfl, rfl, rfl, trivial⟩ (Nat.le_of_ble_eq_true rfl) rfl (fun x ed el hx hini => ?_)
  refine V_iconst hx dX11_makes_0 ?_
  refine V_istore_4 hx (by first | exact nc_I | exact nc_R | exact nc_n) dX11_makes_1 ?_
  refine loop_inv (α := Unit) 1 n (by omega) (fun i _ => ∀ k : Int, 1 ≤ k → k < i → okM I o t (I 61 (k - 1)) (I 61 k)) (fun i _ => V x z _ N I 0 0 3 [some (vR z 49), some (vI n), some (vI o), some (vI t), some (vI i), none, none, none, none] []) ?_ ?_ () (fun k a b => by omega)
  · rintro _ hJ
    refine V_iload_4 hx dX11_makes_3 ?_
    refine V_iload_1 hx dX11_makes_5 ?_
    refine V_icmp_ge (tgt := 137) hx dX11_makes_6 (by decide) (by omega) (by omega) (fun h6 => ?_) (fun h6 => ?_)
    · refine V_iconst hx dX11_makes_137 ?_
      refine V_zreturn hx dX11_makes_138 (by first | omega | exact cif01 _) (by omega) (by omega) ?_
      exact ⟨by rw [vB_t (show mks I (I 61) n o t from hJ)], rfl, rfl⟩
    · exfalso; omega
  · rintro i _ hi0 hi1 hJ ih
    unfold okT at ho
    refine V_iload_4 hx dX11_makes_3 ?_
    refine V_iload_1 hx dX11_makes_5 ?_
    refine V_icmp_ge (tgt := 137) hx dX11_makes_6 (by decide) (by omega) (by omega) (fun h6 => ?_) (fun h6 => ?_)
    · exfalso; omega
    · refine V_aload_0 hx dX11_makes_9 ?_
      refine V_getRe hx flX11_43 dX11_makes_10 rfl (k49 hN) (hF.1 49 18 61 rfl) ?_
      refine V_iload_4 hx dX11_makes_13 ?_
      refine V_iconst hx dX11_makes_15 ?_
      refine V_isub hx dX11_makes_16 ?_
      refine V_ialoadx hx hF dX11_makes_17 (k61 hN) (by decide) (by omega) (fun r17 => ?_)
      refine V_istore_5 hx (by first | exact nc_I | exact nc_R | exact nc_n) dX11_makes_18 ?_
      refine V_aload_0 hx dX11_makes_20 ?_
      refine V_getRe hx flX11_43 dX11_makes_21 rfl (k49 hN) (hF.1 49 18 61 rfl) ?_
      refine V_iload_4 hx dX11_makes_24 ?_
      refine V_ialoadx hx hF dX11_makes_26 (k61 hN) (by decide) (by omega) (fun r26 => ?_)
      refine V_istore_6 hx (by first | exact nc_I | exact nc_R | exact nc_n) dX11_makes_27 ?_
      have g1 := hg (i - 1) (by omega) (by omega)
      have g2 := hg i (by omega) (by omega)
      have w1 := hW (I 61 (i - 1)) (o % 10 - 1) g1.1 g1.2 (by omega) (by omega)
      have w2 := hW (I 61 i) (o % 10 - 1) g2.1 g2.2 (by omega) (by omega)
      have m1 := mulb (a := o / 10) (b := I 55 (13 * I 61 i + (o % 10 - 1)) - I 55 (13 * I 61 (i - 1) + (o % 10 - 1))) (A := 10) (B := 200000) (by omega) (by omega)
      refine V_iload_2 hx dX11_makes_29 ?_
      refine V_bipush hx dX11_makes_30 (by decide) ?_
      refine V_idiv hx dX11_makes_32 (by omega) (by omega) ?_
      refine V_i2l hx dX11_makes_33 (by omega) ?_
      refine V_aload_0 hx dX11_makes_34 ?_
      refine V_iload_6 hx dX11_makes_35 ?_
      refine V_iload_2 hx dX11_makes_37 ?_
      refine V_bipush hx dX11_makes_38 (by decide) ?_
      refine V_irem hx dX11_makes_40 (by omega) (by omega) ?_
      refine V_iconst hx dX11_makes_41 ?_
      refine V_isub hx dX11_makes_42 ?_
      refine V_v2Q hx el ed (c_X11_of hN hF (by omega)) myX11_of mlX11_99 dX11_makes_43 ⟨_, rfl, rfl⟩ (k49 hN) (by decide) (by omega) rfl (by first | exact Nat.le_of_ble_eq_true rfl | simp [vI, vL, vR_cat, Value.category]) (fun r43 => ?_)
      refine V_aload_0 hx dX11_makes_46 ?_
      refine V_iload_5 hx dX11_makes_47 ?_
      refine V_iload_2 hx dX11_makes_49 ?_
      refine V_bipush hx dX11_makes_50 (by decide) ?_
      refine V_irem hx dX11_makes_52 (by omega) (by omega) ?_
      refine V_iconst hx dX11_makes_53 ?_
      refine V_isub hx dX11_makes_54 ?_
      refine V_v2Q hx el ed (c_X11_of hN hF (by omega)) myX11_of mlX11_99 dX11_makes_55 ⟨_, rfl, rfl⟩ (k49 hN) (by decide) (by omega) rfl (by first | exact Nat.le_of_ble_eq_true rfl | simp [vI, vL, vR_cat, Value.category]) (fun r55 => ?_)
      refine V_isub hx dX11_makes_58 ?_
      refine V_i2l hx dX11_makes_59 (by omega) ?_
      refine V_lmul hx dX11_makes_60 ?_
      refine V_lstore_7 hx (by first | exact nc_I | exact nc_R | exact nc_n) dX11_makes_61 ?_
      refine V_lload_7 hx dX11_makes_63 ?_
      refine V_iload_3 hx dX11_makes_65 ?_
      refine V_if_ne (tgt := 73) hx dX11_makes_66 (by decide) (by omega) (fun h66 => ?_) (fun h66 => ?_)
      · have ht2 := ht.resolve_left (by omega)
        unfold okT at ht2
        have w3 := hW (I 61 (i - 1)) (t % 10 - 1) g1.1 g1.2 (by omega) (by omega)
        have w4 := hW (I 61 i) (t % 10 - 1) g2.1 g2.2 (by omega) (by omega)
        have m2 := mulb (a := t / 10) (b := I 55 (13 * I 61 i + (t % 10 - 1)) - I 55 (13 * I 61 (i - 1) + (t % 10 - 1))) (A := 10) (B := 200000) (by omega) (by omega)
        refine V_iload_3 hx dX11_makes_73 ?_
        refine V_bipush hx dX11_makes_74 (by decide) ?_
        refine V_idiv hx dX11_makes_76 (by omega) (by omega) ?_
        refine V_i2l hx dX11_makes_77 (by omega) ?_
        refine V_aload_0 hx dX11_makes_78 ?_
        refine V_iload_6 hx dX11_makes_79 ?_
        refine V_iload_3 hx dX11_makes_81 ?_
        refine V_bipush hx dX11_makes_82 (by decide) ?_
        refine V_irem hx dX11_makes_84 (by omega) (by omega) ?_
        refine V_iconst hx dX11_makes_85 ?_
        refine V_isub hx dX11_makes_86 ?_
        refine V_v2Q hx el ed (c_X11_of hN hF (by omega)) myX11_of mlX11_99 dX11_makes_87 ⟨_, rfl, rfl⟩ (k49 hN) (by decide) (by omega) rfl (by first | exact Nat.le_of_ble_eq_true rfl | simp [vI, vL, vR_cat, Value.category]) (fun r87 => ?_)
        refine V_aload_0 hx dX11_makes_90 ?_
        refine V_iload_5 hx dX11_makes_91 ?_
        refine V_iload_3 hx dX11_makes_93 ?_
        refine V_bipush hx dX11_makes_94 (by decide) ?_
        refine V_irem hx dX11_makes_96 (by omega) (by omega) ?_
        refine V_iconst hx dX11_makes_97 ?_
        refine V_isub hx dX11_makes_98 ?_
        refine V_v2Q hx el ed (c_X11_of hN hF (by omega)) myX11_of mlX11_99 dX11_makes_99 ⟨_, rfl, rfl⟩ (k49 hN) (by decide) (by omega) rfl (by first | exact Nat.le_of_ble_eq_true rfl | simp [vI, vL, vR_cat, Value.category]) (fun r99 => ?_)
        refine V_isub hx dX11_makes_102 ?_
        refine V_i2l hx dX11_makes_103 (by omega) ?_
        refine V_lmul hx dX11_makes_104 ?_
        refine V_ladd hx dX11_makes_105 ?_
        refine V_lstore_7 hx (by first | exact nc_I | exact nc_R | exact nc_n) dX11_makes_106 ?_
        refine V_lload_7 hx dX11_makes_108 ?_
        refine V_lconst (v := 0) hx dX11_makes_110 (by decide) ?_
        refine V_lif_lt (tgt := 129) hx dX11_makes_111 dX11_makes_112 (by decide) (by omega) (by omega) (fun h112 => ?_) (fun h112 => ?_)
        · refine V_iconst hx dX11_makes_129 ?_
          refine V_zreturn hx dX11_makes_130 (by first | omega | exact cif01 _) (by omega) (by omega) ?_
          exact ⟨by rw [vB_f (fun q => by have := q i hi0 hi1; unfold okM v2 vv at this; first | (rw [cif_t (by omega)] at this; omega) | (rw [cif_f (by omega)] at this; omega))], rfl, rfl⟩
        · refine V_lload_7 hx dX11_makes_115 ?_
          refine V_lconst (v := 0) hx dX11_makes_117 (by decide) ?_
          refine V_lif_ne (tgt := 131) hx dX11_makes_118 dX11_makes_119 (by decide) (by omega) (by omega) (fun h119 => ?_) (fun h119 => ?_)
          · refine V_iinc_4 hx (by first | exact nc_I | exact nc_R | exact nc_n) dX11_makes_131 ?_
            refine V_goto (tgt := 3) hx dX11_makes_134 (by decide) ?_
            refine V_drop_5 ?_
            refine V_drop_6 ?_
            refine V_drop_7 ?_
            refine ih () (fun k k0 k1 => ?_)
            by_cases hk : k = i
            · subst hk
              unfold okM v2 vv
              first | (rw [cif_t (by omega)]; omega) | (rw [cif_f (by omega)]; omega)
            · exact hJ k k0 (by omega)
          · refine V_iload_5 hx dX11_makes_122 ?_
            refine V_iload_6 hx dX11_makes_124 ?_
            refine V_icmp_le (tgt := 131) hx dX11_makes_126 (by decide) (by omega) (by omega) (fun h126 => ?_) (fun h126 => ?_)
            · refine V_iinc_4 hx (by first | exact nc_I | exact nc_R | exact nc_n) dX11_makes_131 ?_
              refine V_goto (tgt := 3) hx dX11_makes_134 (by decide) ?_
              refine V_drop_5 ?_
              refine V_drop_6 ?_
              refine V_drop_7 ?_
              refine ih () (fun k k0 k1 => ?_)
              by_cases hk : k = i
              · subst hk
                unfold okM v2 vv
                first | (rw [cif_t (by omega)]; omega) | (rw [cif_f (by omega)]; omega)
              · exact hJ k k0 (by omega)
            · refine V_iconst hx dX11_makes_129 ?_
              refine V_zreturn hx dX11_makes_130 (by first | omega | exact cif01 _) (by omega) (by omega) ?_
              exact ⟨by rw [vB_f (fun q => by have := q i hi0 hi1; unfold okM v2 vv at this; first | (rw [cif_t (by omega)] at this; omega) | (rw [cif_f (by omega)] at this; omega))], rfl, rfl⟩
      · refine V_lconst (v := 0) hx dX11_makes_69 (by decide) ?_
        refine V_goto (tgt := 105) hx dX11_makes_70 (by decide) ?_
        refine V_ladd hx dX11_makes_105 ?_
        refine V_lstore_7 hx (by first | exact nc_I | exact nc_R | exact nc_n) dX11_makes_106 ?_
        refine V_lload_7 hx dX11_makes_108 ?_
        refine V_lconst (v := 0) hx dX11_makes_110 (by decide) ?_
        refine V_lif_lt (tgt := 129) hx dX11_makes_111 dX11_makes_112 (by decide) (by omega) (by omega) (fun h112 => ?_) (fun h112 => ?_)
        · refine V_iconst hx dX11_makes_129 ?_
          refine V_zreturn hx dX11_makes_130 (by first | omega | exact cif01 _) (by omega) (by omega) ?_
          exact ⟨by rw [vB_f (fun q => by have := q i hi0 hi1; unfold okM v2 vv at this; first | (rw [cif_t (by omega)] at this; omega) | (rw [cif_f (by omega)] at this; omega))], rfl, rfl⟩
        · refine V_lload_7 hx dX11_makes_115 ?_
          refine V_lconst (v := 0) hx dX11_makes_117 (by decide) ?_
          refine V_lif_ne (tgt := 131) hx dX11_makes_118 dX11_makes_119 (by decide) (by omega) (by omega) (fun h119 => ?_) (fun h119 => ?_)
          · refine V_iinc_4 hx (by first | exact nc_I | exact nc_R | exact nc_n) dX11_makes_131 ?_
            refine V_goto (tgt := 3) hx dX11_makes_134 (by decide) ?_
            refine V_drop_5 ?_
            refine V_drop_6 ?_
            refine V_drop_7 ?_
            refine ih () (fun k k0 k1 => ?_)
            by_cases hk : k = i
            · subst hk
              unfold okM v2 vv
              first | (rw [cif_t (by omega)]; omega) | (rw [cif_f (by omega)]; omega)
            · exact hJ k k0 (by omega)
          · refine V_iload_5 hx dX11_makes_122 ?_
            refine V_iload_6 hx dX11_makes_124 ?_
            refine V_icmp_le (tgt := 131) hx dX11_makes_126 (by decide) (by omega) (by omega) (fun h126 => ?_) (fun h126 => ?_)
            · refine V_iinc_4 hx (by first | exact nc_I | exact nc_R | exact nc_n) dX11_makes_131 ?_
              refine V_goto (tgt := 3) hx dX11_makes_134 (by decide) ?_
              refine V_drop_5 ?_
              refine V_drop_6 ?_
              refine V_drop_7 ?_
              refine ih () (fun k k0 k1 => ?_)
              by_cases hk : k = i
              · subst hk
                unfold okM v2 vv
                first | (rw [cif_t (by omega)]; omega) | (rw [cif_f (by omega)]; omega)
              · exact hJ k k0 (by omega)
            · refine V_iconst hx dX11_makes_129 ?_
              refine V_zreturn hx dX11_makes_130 (by first | omega | exact cif01 _) (by omega) (by omega) ?_
              exact ⟨by rw [vB_f (fun q => by have := q i hi0 hi1; unfold okM v2 vv at this; first | (rw [cif_t (by omega)] at this; omega) | (rw [cif_f (by omega)] at this; omega))], rfl, rfl⟩

