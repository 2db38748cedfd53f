set_option maxRecDepth 8000 in
theorem c_X11_ranks {l : Launch} {d : Dd} {z : Nat} {N : Int} {I : Mm} {s lane i0 n : Int} (hN : 67 ≤ N) (hF : Fx I) (hs0 : ∀ q : Int, 0 ≤ q → q ≤ 3 → 0 ≤ I 59 q ∧ I 59 q ≤ 24) (hs : 0 ≤ s ∧ s ≤ 3) (hn : 1 ≤ n ∧ n ≤ 24) (hlane : -2147483648 ≤ lane ∧ lane ≤ 2147483647) (hi0 : -2147483648 ≤ i0 ∧ i0 ≤ 2147483647) : Cn l d z yX11_ranks cX11_ranks 7 (some .int) 1 25 0 0 [vR z 49, vI s, vI lane, vI i0, vI n] N I (pI (fun r N' I' => N' = N ∧ Fx I' ∧ r = rkF I s lane i0 n ∧ (∀ a q : Int, a ≠ 61 → I' a q = I a q) ∧ (r = 1 → okRk I s i0 n ∧ ∀ q : Int, 0 ≤ q → q < n → I' 61 q = itm I s i0 q) ∧ -13 ≤ r ∧ r ≤ 1)) := by
  refine Cn.ofA [(vR z 49, false), (vI s, false), (vI lane, false), (vI i0, false), (vI n, false)] [some (vR z 49), some (vI s), some (vI lane), some (vI i0), some (vI n), none, none] RX11 (by decide) rfl ⟨cR z 49, rfl, rfl, rfl, rfl, trivial⟩ (Nat.le_of_ble_eq_true rfl) rfl (fun x ed el hx hini => ?_)
  have hwr := wrF_1 (I := I) (s := s) (lane := lane) (i := i0) (n := n)
  have hq := hs0 s hs.1 hs.2
  refine V_aload_0 hx dX11_ranks_0 ?_
  refine V_iload_1 hx dX11_ranks_1 ?_
  refine V_iload_2 hx dX11_ranks_2 ?_
  refine V_iload_3 hx dX11_ranks_3 ?_
  refine V_iload_4 hx dX11_ranks_4 ?_
  refine V_v4Q hx el ed (c_X11_wrong hN hF (by omega) (by omega) (by omega) (by omega)) myX11_wrong mlX11_146 dX11_ranks_6 ⟨_, rfl, rfl⟩ (k49 hN) (by decide) (by omega) rfl (by first | exact Nat.le_of_ble_eq_true rfl | simp [vI, vL, vR_cat, Value.category]) (fun r6 => ?_)
  refine V_istore_5 hx (by first | exact nc_I | exact nc_R | exact nc_n) dX11_ranks_9 ?_
  refine V_iconst hx dX11_ranks_11 ?_
  refine V_istore_6 hx (by first | exact nc_I | exact nc_R | exact nc_n) dX11_ranks_12 ?_
  by_cases hw1 : wrF I s lane i0 n = 1
  · rw [hw1]
    refine loop_inv (α := Mm × Int) 0 n (by omega) (fun i q => Fx q.1 ∧ (∀ a k : Int, a ≠ 61 → q.1 a k = I a k) ∧ ((q.2 = 1 ∧ ∀ k : Int, 0 ≤ k → k < i → (0 ≤ I 60 (24 * s + (i0 + k)) ∧ I 60 (24 * s + (i0 + k)) ≤ 31) ∧ q.1 61 k = I 60 (24 * s + (i0 + k))) ∨ (q.2 = -2 ∧ ¬ okRk I s i0 n))) (fun i q => V x z _ N q.1 0 0 14 [some (vR z 49), some (vI s), some (vI lane), some (vI i0), some (vI n), some (vI q.2), some (vI i)] []) ?_ ?_ (I, 1) ⟨hF, fun _ _ _ => rfl, Or.inl ⟨rfl, fun k a b => by omega⟩⟩
    · rintro ⟨M, wr⟩ ⟨hF, hM, hJ⟩
      dsimp only at hF hM hJ ⊢
      have hwb : wr = 1 ∨ wr = -2 := by rcases hJ with h | h <;> omega
      refine V_iload_6 hx dX11_ranks_14 ?_
      refine V_iload_4 hx dX11_ranks_16 ?_
      refine V_icmp_ge (tgt := 75) hx dX11_ranks_18 (by decide) (by omega) (by omega) (fun h18 => ?_) (fun h18 => ?_)
      · refine V_iload_5 hx dX11_ranks_75 ?_
        refine V_ireturn hx dX11_ranks_77 (by omega) (by omega) ?_
        refine ⟨_, rfl, rfl, hF, ?_, hM, ?_, by omega, by omega⟩
        · unfold rkF
          rw [cif_t hw1]
          rcases hJ with ⟨h1, h2⟩ | ⟨h1, h2⟩
          · rw [cif_t (show okRk I s i0 n from fun k k0 k1 => (h2 k k0 k1).1)]; exact h1
          · rw [cif_f h2]; exact h1
        · intro h
          rcases hJ with ⟨h1, h2⟩ | ⟨h1, h2⟩
          · exact ⟨fun k k0 k1 => (h2 k k0 k1).1, fun k k0 k1 => (h2 k k0 k1).2⟩
          · exfalso; omega
      · exfalso; omega
    · rintro i ⟨M, wr⟩ hi0 hi1 ⟨hF, hM, hJ⟩ ih
      dsimp only at hF hM hJ ⊢
      have hwb : wr = 1 ∨ wr = -2 := by rcases hJ with h | h <;> omega
      have hM60 : ∀ k : Int, M 60 k = I 60 k := fun k => hM 60 k (by decide)
      refine V_iload_6 hx dX11_ranks_14 ?_
      refine V_iload_4 hx dX11_ranks_16 ?_
      refine V_icmp_ge (tgt := 75) hx dX11_ranks_18 (by decide) (by omega) (by omega) (fun h18 => ?_) (fun h18 => ?_)
      · refine V_iload_5 hx dX11_ranks_75 ?_
        refine V_ireturn hx dX11_ranks_77 (by omega) (by omega) ?_
        refine ⟨_, rfl, rfl, hF, ?_, hM, ?_, by omega, by omega⟩
        · unfold rkF
          rw [cif_t hw1]
          rcases hJ with ⟨h1, h2⟩ | ⟨h1, h2⟩
          · exfalso; omega
          · rw [cif_f h2]; exact h1
        · intro h
          rcases hJ with ⟨h1, h2⟩ | ⟨h1, h2⟩
          · exfalso; omega
          · exfalso; omega
      · refine V_iload_5 hx dX11_ranks_21 ?_
        refine V_iconst hx dX11_ranks_23 ?_
        refine V_icmp_ne (tgt := 75) hx dX11_ranks_24 (by decide) (by omega) (by omega) (fun h24 => ?_) (fun h24 => ?_)
        · refine V_iload_5 hx dX11_ranks_75 ?_
          refine V_ireturn hx dX11_ranks_77 (by omega) (by omega) ?_
          refine ⟨_, rfl, rfl, hF, ?_, hM, ?_, by omega, by omega⟩
          · unfold rkF
            rw [cif_t hw1]
            rcases hJ with ⟨h1, h2⟩ | ⟨h1, h2⟩
            · exfalso; omega
            · rw [cif_f h2]; exact h1
          · intro h
            rcases hJ with ⟨h1, h2⟩ | ⟨h1, h2⟩
            · exfalso; omega
            · exfalso; omega
        · have hJ1 := hJ.resolve_right (fun q => by omega)
          refine V_aload_0 hx dX11_ranks_27 ?_
          refine V_getRe hx flX11_43 dX11_ranks_28 rfl (k49 hN) (hF.1 49 18 61 rfl) ?_
          refine V_iload_6 hx dX11_ranks_31 ?_
          refine V_aload_0 hx dX11_ranks_33 ?_
          refine V_iload_1 hx dX11_ranks_34 ?_
          refine V_iload_3 hx dX11_ranks_35 ?_
          refine V_iload_6 hx dX11_ranks_36 ?_
          refine V_iadd hx dX11_ranks_38 ?_
          refine V_v2Q hx el ed (c_X11_itemOf hN hF (by omega)) myX11_itemOf mlX11_150 dX11_ranks_39 ⟨_, rfl, rfl⟩ (k49 hN) (by decide) (by omega) rfl (by first | exact Nat.le_of_ble_eq_true rfl | simp [vI, vL, vR_cat, Value.category]) (fun r39 => ?_)
          refine V_iastorex hx hF dX11_ranks_42 (k61 hN) (by decide) (by omega) (fx_none rfl _) (by omega) (Or.inl (by decide)) (fun hF => ?_)
          refine V_aload_0 hx dX11_ranks_43 ?_
          refine V_getRe hx flX11_43 dX11_ranks_44 rfl (k49 hN) (hF.1 49 18 61 rfl) ?_
          refine V_iload_6 hx dX11_ranks_47 ?_
          refine V_ialoadx hx hF dX11_ranks_49 (k61 hN) (by decide) (by omega) (fun r49 => ?_)
          (try simp only [up_s, up_c, up_row, up_k, ne_eq, Int.reduceEq, not_false_eq_true] at r49 ⊢)
          refine V_i2l hx dX11_ranks_50 (by omega) ?_
          refine V_lconst (v := 0) hx dX11_ranks_51 (by decide) ?_
          refine V_ldc2 (v := 31) hx kcX11_231 dX11_ranks_52 (by decide) ?_
          refine V_s3P hx el ed (c_X11_in (by omega) (by omega) (by omega)) myX11_in mlX11_70 dX11_ranks_55 (by decide) (by omega) rfl (by first | exact Nat.le_of_ble_eq_true rfl | simp [vI, vL, vR_cat, Value.category]) ?_
          refine V_ifB_eq (tgt := 65) hx dX11_ranks_58 (by decide) (fun h58 => ?_) (fun h58 => ?_)
          · refine V_bipush hx dX11_ranks_65 (by decide) ?_
            refine V_istore_5 hx (by first | exact nc_I | exact nc_R | exact nc_n) dX11_ranks_67 ?_
            refine V_iinc_6 hx (by first | exact nc_I | exact nc_R | exact nc_n) dX11_ranks_69 ?_
            refine V_goto (tgt := 14) hx dX11_ranks_72 (by decide) ?_
            have hM2 : ∀ a k : Int, a ≠ 61 → up M 61 i (M 60 (24 * s + (i0 + i))) a k = I a k := fun a k ha => by rw [up_c ha]; exact hM a k ha
            have hMi := hM60 (24 * s + (i0 + i))
            by_cases hgood : 0 ≤ M 60 (24 * s + (i0 + i)) ∧ M 60 (24 * s + (i0 + i)) ≤ 31
            · have hK : ∀ k : Int, 0 ≤ k → k < i + 1 → (0 ≤ I 60 (24 * s + (i0 + k)) ∧ I 60 (24 * s + (i0 + k)) ≤ 31) ∧ up M 61 i (M 60 (24 * s + (i0 + i))) 61 k = I 60 (24 * s + (i0 + k)) := by
                intro k k0 k1
                by_cases hk : k = i
                · subst hk; rw [up_s]; exact ⟨by omega, hMi⟩
                · rw [up_k hk]; exact hJ1.2 k k0 (by omega)
              first | exact ih (up M 61 i (M 60 (24 * s + (i0 + i))), 1) ⟨hF, hM2, Or.inl ⟨rfl, hK⟩⟩ | exact absurd hgood (by assumption)
            · first | exact absurd (by assumption) hgood | exact ih (up M 61 i (M 60 (24 * s + (i0 + i))), -2) ⟨hF, hM2, Or.inr ⟨rfl, fun q => by have := q i hi0 hi1; omega⟩⟩
          · refine V_iconst hx dX11_ranks_61 ?_
            refine V_goto (tgt := 67) hx dX11_ranks_62 (by decide) ?_
            refine V_istore_5 hx (by first | exact nc_I | exact nc_R | exact nc_n) dX11_ranks_67 ?_
            refine V_iinc_6 hx (by first | exact nc_I | exact nc_R | exact nc_n) dX11_ranks_69 ?_
            refine V_goto (tgt := 14) hx dX11_ranks_72 (by decide) ?_
            have hM2 : ∀ a k : Int, a ≠ 61 → up M 61 i (M 60 (24 * s + (i0 + i))) a k = I a k := fun a k ha => by rw [up_c ha]; exact hM a k ha
            have hMi := hM60 (24 * s + (i0 + i))
            by_cases hgood : 0 ≤ M 60 (24 * s + (i0 + i)) ∧ M 60 (24 * s + (i0 + i)) ≤ 31
            · have hK : ∀ k : Int, 0 ≤ k → k < i + 1 → (0 ≤ I 60 (24 * s + (i0 + k)) ∧ I 60 (24 * s + (i0 + k)) ≤ 31) ∧ up M 61 i (M 60 (24 * s + (i0 + i))) 61 k = I 60 (24 * s + (i0 + k)) := by
                intro k k0 k1
                by_cases hk : k = i
                · subst hk; rw [up_s]; exact ⟨by omega, hMi⟩
                · rw [up_k hk]; exact hJ1.2 k k0 (by omega)
              first | exact ih (up M 61 i (M 60 (24 * s + (i0 + i))), 1) ⟨hF, hM2, Or.inl ⟨rfl, hK⟩⟩ | exact absurd hgood (by assumption)
            · first | exact absurd (by assumption) hgood | exact ih (up M 61 i (M 60 (24 * s + (i0 + i))), -2) ⟨hF, hM2, Or.inr ⟨rfl, fun q => by have := q i hi0 hi1; omega⟩⟩
  · refine V_iload_6 hx dX11_ranks_14 ?_
    refine V_iload_4 hx dX11_ranks_16 ?_
    refine V_icmp_ge (tgt := 75) hx dX11_ranks_18 (by decide) (by omega) (by omega) (fun h18 => ?_) (fun h18 => ?_)
    · refine V_iload_5 hx dX11_ranks_75 ?_
      refine V_ireturn hx dX11_ranks_77 (by omega) (by omega) ?_
      refine ⟨_, rfl, rfl, hF, by unfold rkF; rw [cif_f hw1], fun _ _ _ => rfl, fun h => by omega, by omega, by omega⟩
    · refine V_iload_5 hx dX11_ranks_21 ?_
      refine V_iconst hx dX11_ranks_23 ?_
      refine V_icmp_ne (tgt := 75) hx dX11_ranks_24 (by decide) (by omega) (by omega) (fun h24 => ?_) (fun h24 => ?_)
      · refine V_iload_5 hx dX11_ranks_75 ?_
        refine V_ireturn hx dX11_ranks_77 (by omega) (by omega) ?_
        refine ⟨_, rfl, rfl, hF, by unfold rkF; rw [cif_f hw1], fun _ _ _ => rfl, fun h => by omega, by omega, by omega⟩
      · exfalso; omega

set_option maxRecDepth 8000 in
theorem c_X11_turned {l : Launch} {d : Dd} {z : Nat} {N : Int} {I : Mm} {n f t : Int} (hN : 67 ≤ N) (hF : Fx I) (hn : 0 ≤ n ∧ n ≤ 24) (hf : -2147483648 ≤ f ∧ f ≤ 2147483647) (ht : -2147483648 ≤ t ∧ t ≤ 2147483647) : Cn l d z yX11_turned cX11_turned 7 (some .int) 1 25 0 0 [vR z 49, vI n, vI f, vI t] N I (pq (trn (I 61) n f t) N I) := by
  refine Cn.ofA [(vR z 49, false), (vI n, false), (vI f, false), (vI t, false)] [some (vR z 49), some (vI n), some (vI f), some (vI t), none, none, none] RX11 (by decide) rfl ⟨cR z 49, rfl, rfl, rfl, trivial⟩ (Nat.le_of_ble_eq_true rfl) rfl (fun x ed el hx hini => ?_)
  refine V_iconst hx dX11_turned_0 ?_
  refine V_istore_4 hx (by first | exact nc_I | exact nc_R | exact nc_n) dX11_turned_1 ?_
  refine V_iconst hx dX11_turned_3 ?_
  refine V_istore_5 hx (by first | exact nc_I | exact nc_R | exact nc_n) dX11_turned_4 ?_
  refine loop_fld (α := Int) (fun acc i => fld (fun s a => s + cif (I 61 i < I 61 a ∧ (f ≤ I 61 a ∧ I 61 a ≤ t) ∧ (f ≤ I 61 i ∧ I 61 i ≤ t)) 1 0) acc i.toNat) 0 n hn.1 (fun i acc => V x z _ N I 0 0 6 [some (vR z 49), some (vI n), some (vI f), some (vI t), some (vI acc), some (vI i), none] []) ?_ ?_
  · refine V_iload_5 hx dX11_turned_6 ?_
    refine V_iload_1 hx dX11_turned_8 ?_
    refine V_icmp_ge (tgt := 97) hx dX11_turned_9 (by decide) (by omega) (by omega) (fun h9 => ?_) (fun h9 => ?_)
    · refine V_iload_4 hx dX11_turned_97 ?_
      refine V_ireturn hx dX11_turned_99 (by omega) (by omega) ?_
      exact ⟨rfl, rfl, rfl, by have := trn_b (g := I 61) (f := f) (t := t) hn.2; omega⟩
    · exfalso; omega
  · intro b hb0 hb1 ih0
    generalize fld (fun (acc : Int) i => fld (fun (s : Int) a => s + cif (I 61 i < I 61 a ∧ (f ≤ I 61 a ∧ I 61 a ≤ t) ∧ (f ≤ I 61 i ∧ I 61 i ≤ t)) 1 0) acc i.toNat) (0 : Int) b.toNat = acc0 at ih0 ⊢
    refine V_iload_5 hx dX11_turned_6 ?_
    refine V_iload_1 hx dX11_turned_8 ?_
    refine V_icmp_ge (tgt := 97) hx dX11_turned_9 (by decide) (by omega) (by omega) (fun h9 => ?_) (fun h9 => ?_)
    · exfalso; omega
    · refine V_iconst hx dX11_turned_12 ?_
      refine V_istore_6 hx (by first | exact nc_I | exact nc_R | exact nc_n) dX11_turned_13 ?_
      refine loop_fld (α := Int) (fun acc i => acc + cif (I 61 b < I 61 i ∧ (f ≤ I 61 i ∧ I 61 i ≤ t) ∧ (f ≤ I 61 b ∧ I 61 b ≤ t)) 1 0) acc0 b (by omega) (fun i acc => V x z _ N I 0 0 15 [some (vR z 49), some (vI n), some (vI f), some (vI t), some (vI acc), some (vI b), some (vI i)] []) ?_ ?_
      · refine V_iload_6 hx dX11_turned_15 ?_
        refine V_iload_5 hx dX11_turned_17 ?_
        refine V_icmp_ge (tgt := 91) hx dX11_turned_19 (by decide) (by omega) (by omega) (fun h19 => ?_) (fun h19 => ?_)
        · refine V_iinc_5 hx (by first | exact nc_I | exact nc_R | exact nc_n) dX11_turned_91 ?_
          refine V_goto (tgt := 6) hx dX11_turned_94 (by decide) ?_
          refine V_drop_6 ?_
          exact ih0
        · exfalso; omega
      · intro i hi0 hi1 ih
        generalize fld _ _ _ = acc at ih ⊢
        refine V_iload_6 hx dX11_turned_15 ?_
        refine V_iload_5 hx dX11_turned_17 ?_
        refine V_icmp_ge (tgt := 91) hx dX11_turned_19 (by decide) (by omega) (by omega) (fun h19 => ?_) (fun h19 => ?_)
        · exfalso; omega
        · refine V_iload_4 hx dX11_turned_22 ?_
          refine V_aload_0 hx dX11_turned_24 ?_
          refine V_getRe hx flX11_43 dX11_turned_25 rfl (k49 hN) (hF.1 49 18 61 rfl) ?_
          refine V_iload_6 hx dX11_turned_28 ?_
          refine V_ialoadx hx hF dX11_turned_30 (k61 hN) (by decide) (by omega) (fun r30 => ?_)
          refine V_aload_0 hx dX11_turned_31 ?_
          refine V_getRe hx flX11_43 dX11_turned_32 rfl (k49 hN) (hF.1 49 18 61 rfl) ?_
          refine V_iload_5 hx dX11_turned_35 ?_
          refine V_ialoadx hx hF dX11_turned_37 (k61 hN) (by decide) (by omega) (fun r37 => ?_)
          refine V_icmp_le (tgt := 81) hx dX11_turned_38 (by decide) (by omega) (by omega) (fun h38 => ?_) (fun h38 => ?_)
          · refine V_iconst hx dX11_turned_81 ?_
            refine V_iadd hx dX11_turned_82 ?_
            refine V_istore_4 hx (by first | exact nc_I | exact nc_R | exact nc_n) dX11_turned_83 ?_
            refine V_iinc_6 hx (by first | exact nc_I | exact nc_R | exact nc_n) dX11_turned_85 ?_
            refine V_goto (tgt := 15) hx dX11_turned_88 (by decide) ?_
            first | exact ih | (rw [cif_t (by first | omega | simp_all)] at ih; exact ih) | (rw [cif_f (by first | omega | simp_all)] at ih; exact ih)
          · refine V_aload_0 hx dX11_turned_41 ?_
            refine V_getRe hx flX11_43 dX11_turned_42 rfl (k49 hN) (hF.1 49 18 61 rfl) ?_
            refine V_iload_6 hx dX11_turned_45 ?_
            refine V_ialoadx hx hF dX11_turned_47 (k61 hN) (by decide) (by omega) (fun r47 => ?_)
            refine V_i2l hx dX11_turned_48 (by omega) ?_
            refine V_iload_2 hx dX11_turned_49 ?_
            refine V_i2l hx dX11_turned_50 (by omega) ?_
            refine V_iload_3 hx dX11_turned_51 ?_
            refine V_i2l hx dX11_turned_52 (by omega) ?_
            refine V_s3P hx el ed (c_X11_in (by omega) (by omega) (by omega)) myX11_in mlX11_70 dX11_turned_53 (by decide) (by omega) rfl (by first | exact Nat.le_of_ble_eq_true rfl | simp [vI, vL, vR_cat, Value.category]) ?_
            refine V_ifB_eq (tgt := 81) hx dX11_turned_56 (by decide) (fun h56 => ?_) (fun h56 => ?_)
            · refine V_iconst hx dX11_turned_81 ?_
              refine V_iadd hx dX11_turned_82 ?_
              refine V_istore_4 hx (by first | exact nc_I | exact nc_R | exact nc_n) dX11_turned_83 ?_
              refine V_iinc_6 hx (by first | exact nc_I | exact nc_R | exact nc_n) dX11_turned_85 ?_
              refine V_goto (tgt := 15) hx dX11_turned_88 (by decide) ?_
              first | exact ih | (rw [cif_t (by first | omega | simp_all)] at ih; exact ih) | (rw [cif_f (by first | omega | simp_all)] at ih; exact ih)
            · refine V_aload_0 hx dX11_turned_59 ?_
              refine V_getRe hx flX11_43 dX11_turned_60 rfl (k49 hN) (hF.1 49 18 61 rfl) ?_
              refine V_iload_5 hx dX11_turned_63 ?_
              refine V_ialoadx hx hF dX11_turned_65 (k61 hN) (by decide) (by omega) (fun r65 => ?_)
              refine V_i2l hx dX11_turned_66 (by omega) ?_
              refine V_iload_2 hx dX11_turned_67 ?_
              refine V_i2l hx dX11_turned_68 (by omega) ?_
              refine V_iload_3 hx dX11_turned_69 ?_
              refine V_i2l hx dX11_turned_70 (by omega) ?_
              refine V_s3P hx el ed (c_X11_in (by omega) (by omega) (by omega)) myX11_in mlX11_70 dX11_turned_71 (by decide) (by omega) rfl (by first | exact Nat.le_of_ble_eq_true rfl | simp [vI, vL, vR_cat, Value.category]) ?_
              refine V_ifB_eq (tgt := 81) hx dX11_turned_74 (by decide) (fun h74 => ?_) (fun h74 => ?_)
              · refine V_iconst hx dX11_turned_81 ?_
                refine V_iadd hx dX11_turned_82 ?_
                refine V_istore_4 hx (by first | exact nc_I | exact nc_R | exact nc_n) dX11_turned_83 ?_
                refine V_iinc_6 hx (by first | exact nc_I | exact nc_R | exact nc_n) dX11_turned_85 ?_
                refine V_goto (tgt := 15) hx dX11_turned_88 (by decide) ?_
                first | exact ih | (rw [cif_t (by first | omega | simp_all)] at ih; exact ih) | (rw [cif_f (by first | omega | simp_all)] at ih; exact ih)
              · refine V_iconst hx dX11_turned_77 ?_
                refine V_goto (tgt := 82) hx dX11_turned_78 (by decide) ?_
                refine V_iadd hx dX11_turned_82 ?_
                refine V_istore_4 hx (by first | exact nc_I | exact nc_R | exact nc_n) dX11_turned_83 ?_
                refine V_iinc_6 hx (by first | exact nc_I | exact nc_R | exact nc_n) dX11_turned_85 ?_
                refine V_goto (tgt := 15) hx dX11_turned_88 (by decide) ?_
                first | exact ih | (rw [cif_t (by first | omega | simp_all)] at ih; exact ih) | (rw [cif_f (by first | omega | simp_all)] at ih; exact ih)

