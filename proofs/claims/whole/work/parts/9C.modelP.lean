set_option maxRecDepth 8000 in
theorem c_X11_isNew {l : Launch} {d : Dd} {z : Nat} {N : Int} {I : Mm} {k : Int} (hN : 67 ≤ N) (hF : Fx I) (hk : 0 ≤ k ∧ k ≤ 5) : Cn l d z yX11_isNew cX11_isNew 4 (some .boolean) 0 0 0 0 [vR z 49, vI k] N I (pv (vB (∀ q : Int, 0 ≤ q → q < k → I 65 q ≠ I 65 k)) N I) := by
  refine Cn.ofA [(vR z 49, false), (vI k, false)] [some (vR z 49), some (vI k), none, none] RX11 (by decide) rfl ⟨cR z 49, rfl, trivial⟩ (Nat.le_of_ble_eq_true rfl) rfl (fun x ed el hx hini => ?_)
  refine V_iconst hx dX11_isNew_0 ?_
  refine V_istore_2 hx (by first | exact nc_I | exact nc_R | exact nc_n) dX11_isNew_1 ?_
  refine V_iconst hx dX11_isNew_2 ?_
  refine V_istore_3 hx (by first | exact nc_I | exact nc_R | exact nc_n) dX11_isNew_3 ?_
  refine loop_inv (α := Int) 0 k hk.1 (fun i s => (s = 1 ∧ ∀ q : Int, 0 ≤ q → q < i → I 65 q ≠ I 65 k) ∨ (s = 0 ∧ ∃ q : Int, 0 ≤ q ∧ q < i ∧ I 65 q = I 65 k)) (fun i s => V x z _ N I 0 0 4 [some (vR z 49), some (vI k), some (vI s), some (vI i)] []) ?_ ?_ 1 (Or.inl ⟨rfl, fun q a b => by omega⟩)
  · rintro s hJ
    have hs : s = 0 ∨ s = 1 := by omega
    refine V_iload_3 hx dX11_isNew_4 ?_
    refine V_iload_1 hx dX11_isNew_5 ?_
    refine V_icmp_ge (tgt := 40) hx dX11_isNew_6 (by decide) (by omega) (by omega) (fun h6 => ?_) (fun h6 => ?_)
    · refine V_iload_2 hx dX11_isNew_40 ?_
      refine V_zreturn hx dX11_isNew_41 (by first | omega | exact cif01 _) (by omega) (by omega) ?_
      rcases hJ with ⟨e, h⟩ | ⟨e, q, q0, q1, q2⟩
      · subst e; exact ⟨by rw [vB_t h], rfl, rfl⟩
      · subst e; exact ⟨by rw [vB_f (fun h => h q q0 q1 q2)], rfl, rfl⟩
    · exfalso; omega
  · rintro i s hi0 hi1 hJ ih
    have hs : s = 0 ∨ s = 1 := by omega
    refine V_iload_3 hx dX11_isNew_4 ?_
    refine V_iload_1 hx dX11_isNew_5 ?_
    refine V_icmp_ge (tgt := 40) hx dX11_isNew_6 (by decide) (by omega) (by omega) (fun h6 => ?_) (fun h6 => ?_)
    · exfalso; omega
    · refine V_iload_2 hx dX11_isNew_9 ?_
      refine V_if_eq (tgt := 32) hx dX11_isNew_10 (by decide) (by omega) (fun h10 => ?_) (fun h10 => ?_)
      · refine V_iconst hx dX11_isNew_32 ?_
        refine V_istore_2 hx (by first | exact nc_I | exact nc_R | exact nc_n) dX11_isNew_33 ?_
        refine V_iinc_3 hx (by first | exact nc_I | exact nc_R | exact nc_n) dX11_isNew_34 ?_
        refine V_goto (tgt := 4) hx dX11_isNew_37 (by decide) ?_
        first
          | exact ih 1 (Or.inl ⟨rfl, fun q a b => by
              rcases hJ with ⟨e, h⟩ | ⟨e, -⟩
              · by_cases c : q = i
                · subst c; assumption
                · exact h q a (by omega)
              · omega⟩)
          | exact ih 0 (Or.inr ⟨rfl, by
              rcases hJ with ⟨e, h⟩ | ⟨e, q, q0, q1, q2⟩
              · first | (exact ⟨i, hi0, by omega, by assumption⟩) | (exfalso; omega)
              · exact ⟨q, q0, by omega, q2⟩⟩)
      · refine V_aload_0 hx dX11_isNew_13 ?_
        refine V_getRe hx flX11_55 dX11_isNew_14 rfl (k49 hN) (hF.1 49 24 65 rfl) ?_
        refine V_iload_3 hx dX11_isNew_17 ?_
        refine V_ialoadx hx hF dX11_isNew_18 (k65 hN) (by decide) (by omega) (fun r18 => ?_)
        refine V_aload_0 hx dX11_isNew_19 ?_
        refine V_getRe hx flX11_55 dX11_isNew_20 rfl (k49 hN) (hF.1 49 24 65 rfl) ?_
        refine V_iload_1 hx dX11_isNew_23 ?_
        refine V_ialoadx hx hF dX11_isNew_24 (k65 hN) (by decide) (by omega) (fun r24 => ?_)
        refine V_icmp_eq (tgt := 32) hx dX11_isNew_25 (by decide) (by omega) (by omega) (fun h25 => ?_) (fun h25 => ?_)
        · refine V_iconst hx dX11_isNew_32 ?_
          refine V_istore_2 hx (by first | exact nc_I | exact nc_R | exact nc_n) dX11_isNew_33 ?_
          refine V_iinc_3 hx (by first | exact nc_I | exact nc_R | exact nc_n) dX11_isNew_34 ?_
          refine V_goto (tgt := 4) hx dX11_isNew_37 (by decide) ?_
          first
            | exact ih 1 (Or.inl ⟨rfl, fun q a b => by
                rcases hJ with ⟨e, h⟩ | ⟨e, -⟩
                · by_cases c : q = i
                  · subst c; assumption
                  · exact h q a (by omega)
                · omega⟩)
            | exact ih 0 (Or.inr ⟨rfl, by
                rcases hJ with ⟨e, h⟩ | ⟨e, q, q0, q1, q2⟩
                · first | (exact ⟨i, hi0, by omega, by assumption⟩) | (exfalso; omega)
                · exact ⟨q, q0, by omega, q2⟩⟩)
        · refine V_iconst hx dX11_isNew_28 ?_
          refine V_goto (tgt := 33) hx dX11_isNew_29 (by decide) ?_
          refine V_istore_2 hx (by first | exact nc_I | exact nc_R | exact nc_n) dX11_isNew_33 ?_
          refine V_iinc_3 hx (by first | exact nc_I | exact nc_R | exact nc_n) dX11_isNew_34 ?_
          refine V_goto (tgt := 4) hx dX11_isNew_37 (by decide) ?_
          first
            | exact ih 1 (Or.inl ⟨rfl, fun q a b => by
                rcases hJ with ⟨e, h⟩ | ⟨e, -⟩
                · by_cases c : q = i
                  · subst c; assumption
                  · exact h q a (by omega)
                · omega⟩)
            | exact ih 0 (Or.inr ⟨rfl, by
                rcases hJ with ⟨e, h⟩ | ⟨e, q, q0, q1, q2⟩
                · first | (exact ⟨i, hi0, by omega, by assumption⟩) | (exfalso; omega)
                · exact ⟨q, q0, by omega, q2⟩⟩)

set_option maxRecDepth 8000 in
theorem c_X11_lates {l : Launch} {d : Dd} {z : Nat} {N : Int} {I : Mm} {n : Int} (hN : 67 ≤ N) (hF : Fx I) (hn : 1 ≤ n ∧ n ≤ 6) (hm : I 49 6 ≤ 1000) (h7 : 0 ≤ I 49 7 ∧ I 49 7 ≤ 100000) (hg : ∀ q : Int, 0 ≤ q → q < n → 0 ≤ I 61 q ∧ I 61 q < I 49 6) (hW : ∀ w : Int, 0 ≤ w → w < I 49 6 → (0 ≤ I 55 (13 * w + 1) ∧ I 55 (13 * w + 1) ≤ 99) ∧ (0 ≤ I 55 (13 * w + 3) ∧ I 55 (13 * w + 3) ≤ 150000)) (hp : ∀ q : Int, 0 ≤ q → q < n → 0 ≤ I 65 q ∧ I 65 q < n) : Cn l d z yX11_lates cX11_lates 6 (some .int) 1 22 0 0 [vR z 49, vI n] N I (pq (ptl I (I 65) n.toNat).1 N I) := by
  refine Cn.ofA [(vR z 49, false), (vI n, false)] [some (vR z 49), some (vI n), none, none, none, none] RX11 (by decide) rfl ⟨cR z 49, rfl, trivial⟩ (Nat.le_of_ble_eq_true rfl) rfl (fun x ed el hx hini => ?_)
  have hln : ∀ i : Int, 0 ≤ i → i < n → (0 ≤ lnM I (I 65 i) ∧ lnM I (I 65 i) ≤ 99) ∧ (0 ≤ duM I (I 65 i) ∧ duM I (I 65 i) ≤ 150000) := fun i i0 i1 => by
    have h1 := hp i i0 i1
    have h2 := hg (I 65 i) h1.1 (by omega)
    exact hW _ h2.1 h2.2
  refine V_iconst hx dX11_lates_0 ?_
  refine V_istore_2 hx (by first | exact nc_I | exact nc_R | exact nc_n) dX11_lates_1 ?_
  refine V_aload_0 hx dX11_lates_2 ?_
  refine V_getIx 7 hx hF flX11_111 dX11_lates_3 rfl rfl (k49 hN) (fun r3 => ?_)
  refine V_istore_3 hx (by first | exact nc_I | exact nc_R | exact nc_n) dX11_lates_6 ?_
  refine V_iconst hx dX11_lates_7 ?_
  refine V_istore_4 hx (by first | exact nc_I | exact nc_R | exact nc_n) dX11_lates_8 ?_
  refine loop_fn n (by omega) (fun i => V x z _ N I 0 0 10 [some (vR z 49), some (vI n), some (vI (ptl I (I 65) i.toNat).1), some (vI (ptl I (I 65) i.toNat).2), some (vI i), none] []) ?_ ?_
  · have hb := ptl_b (I := I) (P := I 65) h7 (m := n) hln n.toNat (by omega) (by omega)
    refine V_iload_4 hx dX11_lates_10 ?_
    refine V_iload_1 hx dX11_lates_12 ?_
    refine V_icmp_ge (tgt := 73) hx dX11_lates_13 (by decide) (by omega) (by omega) (fun h13 => ?_) (fun h13 => ?_)
    · refine V_iload_2 hx dX11_lates_73 ?_
      refine V_ireturn hx dX11_lates_74 (by omega) (by omega) ?_
      exact ⟨rfl, rfl, rfl, by omega⟩
    · exfalso; omega
  · intro i hi0 hi1 ih
    have hb := ptl_b (I := I) (P := I 65) h7 (m := n) hln i.toNat (by omega) (by omega)
    have hpi := hp i hi0 hi1
    have hgi := hg (I 65 i) (by omega) (by omega)
    have hli := hln i hi0 hi1
    have eln : lnM I (I 65 i) = I 55 (13 * I 61 (I 65 i) + 1) := rfl
    have edu : duM I (I 65 i) = I 55 (13 * I 61 (I 65 i) + 3) := rfl
    refine V_iload_4 hx dX11_lates_10 ?_
    refine V_iload_1 hx dX11_lates_12 ?_
    refine V_icmp_ge (tgt := 73) hx dX11_lates_13 (by decide) (by omega) (by omega) (fun h13 => ?_) (fun h13 => ?_)
    · exfalso; omega
    · refine V_aload_0 hx dX11_lates_16 ?_
      refine V_getRe hx flX11_43 dX11_lates_17 rfl (k49 hN) (hF.1 49 18 61 rfl) ?_
      refine V_aload_0 hx dX11_lates_20 ?_
      refine V_getRe hx flX11_55 dX11_lates_21 rfl (k49 hN) (hF.1 49 24 65 rfl) ?_
      refine V_iload_4 hx dX11_lates_24 ?_
      refine V_ialoadx hx hF dX11_lates_26 (k65 hN) (by decide) (by omega) (fun r26 => ?_)
      refine V_ialoadx hx hF dX11_lates_27 (k61 hN) (by decide) (by omega) (fun r27 => ?_)
      refine V_istore_5 hx (by first | exact nc_I | exact nc_R | exact nc_n) dX11_lates_28 ?_
      refine V_iload_3 hx dX11_lates_30 ?_
      refine V_aload_0 hx dX11_lates_31 ?_
      refine V_iload_5 hx dX11_lates_32 ?_
      refine V_iconst hx dX11_lates_34 ?_
      refine V_v2Q hx el ed (c_X11_of hN hF (by omega)) myX11_of mlX11_99 dX11_lates_35 ⟨_, rfl, rfl⟩ (k49 hN) (by decide) (by omega) rfl (by first | exact Nat.le_of_ble_eq_true rfl | (simp only [List.map_cons, List.map_nil, List.sum_cons, List.sum_nil, vR_cat, cat_I, cat_L]; decide)) (fun r35 => ?_)
      refine V_iadd hx dX11_lates_38 ?_
      refine V_istore_3 hx (by first | exact nc_I | exact nc_R | exact nc_n) dX11_lates_39 ?_
      refine V_iload_2 hx dX11_lates_40 ?_
      refine V_iload_3 hx dX11_lates_41 ?_
      refine V_aload_0 hx dX11_lates_42 ?_
      refine V_iload_5 hx dX11_lates_43 ?_
      refine V_iconst hx dX11_lates_45 ?_
      refine V_v2Q hx el ed (c_X11_of hN hF (by omega)) myX11_of mlX11_99 dX11_lates_46 ⟨_, rfl, rfl⟩ (k49 hN) (by decide) (by omega) rfl (by first | exact Nat.le_of_ble_eq_true rfl | (simp only [List.map_cons, List.map_nil, List.sum_cons, List.sum_nil, vR_cat, cat_I, cat_L]; decide)) (fun r46 => ?_)
      refine V_icmp_le (tgt := 64) hx dX11_lates_49 (by decide) (by omega) (by omega) (fun h49 => ?_) (fun h49 => ?_)
      · refine V_iconst hx dX11_lates_64 ?_
        refine V_iadd hx dX11_lates_65 ?_
        refine V_istore_2 hx (by first | exact nc_I | exact nc_R | exact nc_n) dX11_lates_66 ?_
        refine V_iinc_4 hx (by first | exact nc_I | exact nc_R | exact nc_n) dX11_lates_67 ?_
        refine V_goto (tgt := 10) hx dX11_lates_70 (by decide) ?_
        refine V_drop_5 ?_
        rw [ptl_s _ _ hi0] at ih
        dsimp only at ih
        first
          | (rw [show max 0 ((ptl I (I 65) i.toNat).2 + lnM I (I 65 i) - duM I (I 65 i)) = (ptl I (I 65) i.toNat).2 + lnM I (I 65 i) - duM I (I 65 i) by omega] at ih; exact ih)
          | (rw [show max 0 ((ptl I (I 65) i.toNat).2 + lnM I (I 65 i) - duM I (I 65 i)) = 0 by omega] at ih; exact ih)
      · refine V_iload_3 hx dX11_lates_52 ?_
        refine V_aload_0 hx dX11_lates_53 ?_
        refine V_iload_5 hx dX11_lates_54 ?_
        refine V_iconst hx dX11_lates_56 ?_
        refine V_v2Q hx el ed (c_X11_of hN hF (by omega)) myX11_of mlX11_99 dX11_lates_57 ⟨_, rfl, rfl⟩ (k49 hN) (by decide) (by omega) rfl (by first | exact Nat.le_of_ble_eq_true rfl | (simp only [List.map_cons, List.map_nil, List.sum_cons, List.sum_nil, vR_cat, cat_I, cat_L]; decide)) (fun r57 => ?_)
        refine V_isub hx dX11_lates_60 ?_
        refine V_goto (tgt := 65) hx dX11_lates_61 (by decide) ?_
        refine V_iadd hx dX11_lates_65 ?_
        refine V_istore_2 hx (by first | exact nc_I | exact nc_R | exact nc_n) dX11_lates_66 ?_
        refine V_iinc_4 hx (by first | exact nc_I | exact nc_R | exact nc_n) dX11_lates_67 ?_
        refine V_goto (tgt := 10) hx dX11_lates_70 (by decide) ?_
        refine V_drop_5 ?_
        rw [ptl_s _ _ hi0] at ih
        dsimp only at ih
        first
          | (rw [show max 0 ((ptl I (I 65) i.toNat).2 + lnM I (I 65 i) - duM I (I 65 i)) = (ptl I (I 65) i.toNat).2 + lnM I (I 65 i) - duM I (I 65 i) by omega] at ih; exact ih)
          | (rw [show max 0 ((ptl I (I 65) i.toNat).2 + lnM I (I 65 i) - duM I (I 65 i)) = 0 by omega] at ih; exact ih)

