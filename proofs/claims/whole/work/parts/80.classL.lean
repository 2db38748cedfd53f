set_option maxRecDepth 8000 in
theorem c_X2_sortByNumber {l : Launch} {d : Dd} {z : Nat} {N : Int} {I : Mm} (hN : 67 ≤ N) (hF : Fx I) (hP : PkC I N) (hNb : N ≤ 2000) (hd : ∀ p q : Int, 0 ≤ p → p < q → q < I 22 1 → I (I 23 p) 0 ≠ I (I 23 q) 0) : Cn l d z yX2_sortByNumber cX2_sortByNumber 4 none 0 0 0 0 [vR z 22] N I (pN (fun N' I' => N' = N ∧ Fx I' ∧ (∀ a q : Int, a ≠ 23 → I' a q = I a q) ∧ (I 22 1 < 1 ∨ sOut (fun a => I a 0) (I 23) (I 22 1) (I 22 1) (I' 23)) ∧ ∀ q : Int, 0 ≤ q → q < I 22 1 → 67 ≤ I' 23 q ∧ I' 23 q < N)) := by
  refine Cn.ofA [(vR z 22, false)] [some (vR z 22), none, none, none] RX2 (by decide) rfl ⟨cR z 22, trivial⟩ (Nat.le_of_ble_eq_true rfl) rfl (fun x ed el hx hini => ?_)
  have hl := hP.1
  refine V_iconst hx dX2_sortByNumber_0 ?_
  refine V_istore_1 hx (by first | exact nc_I | exact nc_R | exact nc_n) dX2_sortByNumber_1 ?_
  refine loop_inv (α := Mm) 1 (max 1 (I 22 1)) (by omega) (fun i M => Fx M ∧ (∀ a q : Int, a ≠ 23 → M a q = I a q) ∧ sOut (fun a => I a 0) (I 23) (I 22 1) i (M 23) ∧ ∀ q : Int, 0 ≤ q → q < I 22 1 → 67 ≤ M 23 q ∧ M 23 q < N) (fun i M => V x z _ N M 0 0 2 [some (vR z 22), some (vI i), none, none] []) ?_ ?_ I ⟨hF, fun _ _ _ => rfl, sOut_1 _ _ _, hP.2⟩
  · rintro M ⟨hF, hM, hS, hR⟩
    have e22 := hM 22 1 (by decide)
    refine V_iload_1 hx dX2_sortByNumber_2 ?_
    refine V_aload_0 hx dX2_sortByNumber_3 ?_
    refine V_getIx 1 hx hF flX2_21 dX2_sortByNumber_4 rfl rfl (k22 hN) (fun r4 => ?_)
    refine V_icmp_ge (tgt := 74) hx dX2_sortByNumber_7 (by decide) (by omega) (by omega) (fun h7 => ?_) (fun h7 => ?_)
    · refine V_return hx dX2_sortByNumber_74 (by omega) (by omega) ?_
      refine ⟨rfl, rfl, hF, hM, ?_, hR⟩
      rcases Int.lt_or_le (I 22 1) 1 with c | c
      · exact Or.inl c
      · rw [show max 1 (I 22 1) = I 22 1 by omega] at hS; exact Or.inr hS
    · exfalso; omega
  · rintro i M0 hi0 hi1 ⟨hF, hM, hS, hR⟩ ih
    have e22 := hM 22 1 (by decide)
    have hei := hR i (by omega) (by omega)
    refine V_iload_1 hx dX2_sortByNumber_2 ?_
    refine V_aload_0 hx dX2_sortByNumber_3 ?_
    refine V_getIx 1 hx hF flX2_21 dX2_sortByNumber_4 rfl rfl (k22 hN) (fun r4 => ?_)
    refine V_icmp_ge (tgt := 74) hx dX2_sortByNumber_7 (by decide) (by omega) (by omega) (fun h7 => ?_) (fun h7 => ?_)
    · exfalso; omega
    · refine V_aload_0 hx dX2_sortByNumber_10 ?_
      refine V_getRe hx flX2_11 dX2_sortByNumber_11 rfl (k22 hN) (hF.1 22 0 23 rfl) ?_
      refine V_iload_1 hx dX2_sortByNumber_14 ?_
      refine V_aaload hx dX2_sortByNumber_15 (k23 hN) (by unfold refK; omega) (by decide) (by omega) ?_
      refine V_astore_2 hx (by first | exact nc_I | exact nc_R | exact nc_n) dX2_sortByNumber_16 ?_
      refine V_iload_1 hx dX2_sortByNumber_17 ?_
      refine V_istore_3 hx (by first | exact nc_I | exact nc_R | exact nc_n) dX2_sortByNumber_18 ?_
      have hwi : M0 23 i = I 23 i := hS.2.1 i (by omega) (by omega)
      have hwc : shk N (M0 23 i) (0, 9) := wdC hei.1 hei.2
      obtain ⟨w, hw⟩ : ∃ w, w = M0 23 i := ⟨_, rfl⟩
      rw [← hw] at hwi hwc hei ⊢
      have INS : ∀ (c : Nat) (k : Int) (M : Mm), k = c → k ≤ i → Fx M → (∀ a q : Int, a ≠ 23 → M a q = I a q) → sIn (fun a => I a 0) (I 23) (I 22 1) i k w (M 23) → (∀ q : Int, 0 ≤ q → q < I 22 1 → 67 ≤ M 23 q ∧ M 23 q < N) → V x z (pN (fun N' I' => N' = N ∧ Fx I' ∧ (∀ a q : Int, a ≠ 23 → I' a q = I a q) ∧ (I 22 1 < 1 ∨ sOut (fun a => I a 0) (I 23) (I 22 1) (I 22 1) (I' 23)) ∧ ∀ q : Int, 0 ≤ q → q < I 22 1 → 67 ≤ I' 23 q ∧ I' 23 q < N)) N M 0 0 19 [some (vR z 22), some (vI i), some (vR z w), some (vI k)] [] := by
        intro c
        induction c with
        | zero =>
          intro k M hk hki hF hM hI hR
          have e22 := hM 22 1 (by decide)
          refine V_iload_3 hx dX2_sortByNumber_19 ?_
          refine V_if_le (tgt := 61) hx dX2_sortByNumber_20 (by decide) (by omega) (fun h20 => ?_) (fun h20 => ?_)
          · refine V_aload_0 hx dX2_sortByNumber_61 ?_
            refine V_getRe hx flX2_11 dX2_sortByNumber_62 rfl (k22 hN) (hF.1 22 0 23 rfl) ?_
            refine V_iload_3 hx dX2_sortByNumber_65 ?_
            refine V_aload_2 hx dX2_sortByNumber_66 ?_
            refine V_aastorex hx hF dX2_sortByNumber_67 (k23 hN) (by unfold refK; omega) (by decide) (by omega) (Or.inr hwc) (fx_none rfl _) (by omega) (Or.inl (by decide)) (fun hF => ?_)
            refine V_iinc_1 hx (by first | exact nc_I | exact nc_R | exact nc_n) dX2_sortByNumber_68 ?_
            refine V_goto (tgt := 2) hx dX2_sortByNumber_71 (by decide) ?_
            refine V_drop_2 ?_
            refine V_drop_3 ?_
            refine ih _ ⟨hF, fun a q ha => by rw [up_c ha]; exact hM a q ha, ?_, fun q q0 q1 => ?_⟩
            · rw [up_F]
              exact sIn_e hI (by omega) hwi (fun p p0 p1 => hd p i p0 p1 (by omega)) (Or.inl (by omega))
            · by_cases hq : q = k
              · rw [hq, up_s]; exact hei
              · rw [up_k hq]; exact hR q q0 q1
          · exfalso; omega
        | succ c jh =>
          intro k M hk hki hF hM hI hR
          have e22 := hM 22 1 (by decide)
          have hek := hR (k - 1) (by omega) (by omega)
          have en1 := hM (M 23 (k - 1)) 0 (by omega)
          have en2 := hM w 0 (by omega)
          refine V_iload_3 hx dX2_sortByNumber_19 ?_
          refine V_if_le (tgt := 61) hx dX2_sortByNumber_20 (by decide) (by omega) (fun h20 => ?_) (fun h20 => ?_)
          · refine V_aload_0 hx dX2_sortByNumber_61 ?_
            refine V_getRe hx flX2_11 dX2_sortByNumber_62 rfl (k22 hN) (hF.1 22 0 23 rfl) ?_
            refine V_iload_3 hx dX2_sortByNumber_65 ?_
            refine V_aload_2 hx dX2_sortByNumber_66 ?_
            refine V_aastorex hx hF dX2_sortByNumber_67 (k23 hN) (by unfold refK; omega) (by decide) (by omega) (Or.inr hwc) (fx_none rfl _) (by omega) (Or.inl (by decide)) (fun hF => ?_)
            refine V_iinc_1 hx (by first | exact nc_I | exact nc_R | exact nc_n) dX2_sortByNumber_68 ?_
            refine V_goto (tgt := 2) hx dX2_sortByNumber_71 (by decide) ?_
            refine V_drop_2 ?_
            refine V_drop_3 ?_
            refine ih _ ⟨hF, fun a q ha => by rw [up_c ha]; exact hM a q ha, ?_, fun q q0 q1 => ?_⟩
            · rw [up_F]
              exact sIn_e hI (by omega) hwi (fun p p0 p1 => hd p i p0 p1 (by omega)) (Or.inr (by show I (M 23 (k - 1)) 0 ≤ I w 0; omega))
            · by_cases hq : q = k
              · rw [hq, up_s]; exact hei
              · rw [up_k hq]; exact hR q q0 q1
          · refine V_aload_0 hx dX2_sortByNumber_23 ?_
            refine V_getRe hx flX2_11 dX2_sortByNumber_24 rfl (k22 hN) (hF.1 22 0 23 rfl) ?_
            refine V_iload_3 hx dX2_sortByNumber_27 ?_
            refine V_iconst hx dX2_sortByNumber_28 ?_
            refine V_isub hx dX2_sortByNumber_29 ?_
            refine V_aaload hx dX2_sortByNumber_30 (k23 hN) (by unfold refK; omega) (by decide) (by omega) ?_
            refine V_getIx 0 hx hF flX2_43 dX2_sortByNumber_31 rfl rfl (wdC hek.1 hek.2) (fun r31 => ?_)
            refine V_aload_2 hx dX2_sortByNumber_34 ?_
            refine V_getIx 0 hx hF flX2_43 dX2_sortByNumber_35 rfl rfl hwc (fun r35 => ?_)
            refine V_icmp_le (tgt := 61) hx dX2_sortByNumber_38 (by decide) (by omega) (by omega) (fun h38 => ?_) (fun h38 => ?_)
            · refine V_aload_0 hx dX2_sortByNumber_61 ?_
              refine V_getRe hx flX2_11 dX2_sortByNumber_62 rfl (k22 hN) (hF.1 22 0 23 rfl) ?_
              refine V_iload_3 hx dX2_sortByNumber_65 ?_
              refine V_aload_2 hx dX2_sortByNumber_66 ?_
              refine V_aastorex hx hF dX2_sortByNumber_67 (k23 hN) (by unfold refK; omega) (by decide) (by omega) (Or.inr hwc) (fx_none rfl _) (by omega) (Or.inl (by decide)) (fun hF => ?_)
              refine V_iinc_1 hx (by first | exact nc_I | exact nc_R | exact nc_n) dX2_sortByNumber_68 ?_
              refine V_goto (tgt := 2) hx dX2_sortByNumber_71 (by decide) ?_
              refine V_drop_2 ?_
              refine V_drop_3 ?_
              refine ih _ ⟨hF, fun a q ha => by rw [up_c ha]; exact hM a q ha, ?_, fun q q0 q1 => ?_⟩
              · rw [up_F]
                exact sIn_e hI (by omega) hwi (fun p p0 p1 => hd p i p0 p1 (by omega)) (Or.inr (by show I (M 23 (k - 1)) 0 ≤ I w 0; omega))
              · by_cases hq : q = k
                · rw [hq, up_s]; exact hei
                · rw [up_k hq]; exact hR q q0 q1
            · refine V_aload_0 hx dX2_sortByNumber_41 ?_
              refine V_getRe hx flX2_11 dX2_sortByNumber_42 rfl (k22 hN) (hF.1 22 0 23 rfl) ?_
              refine V_iload_3 hx dX2_sortByNumber_45 ?_
              refine V_aload_0 hx dX2_sortByNumber_46 ?_
              refine V_getRe hx flX2_11 dX2_sortByNumber_47 rfl (k22 hN) (hF.1 22 0 23 rfl) ?_
              refine V_iload_3 hx dX2_sortByNumber_50 ?_
              refine V_iconst hx dX2_sortByNumber_51 ?_
              refine V_isub hx dX2_sortByNumber_52 ?_
              refine V_aaload hx dX2_sortByNumber_53 (k23 hN) (by unfold refK; omega) (by decide) (by omega) ?_
              refine V_aastorex hx hF dX2_sortByNumber_54 (k23 hN) (by unfold refK; omega) (by decide) (by omega) (Or.inr (wdC hek.1 hek.2)) (fx_none rfl _) (by omega) (Or.inl (by decide)) (fun hF => ?_)
              refine V_iinc_3 hx (by first | exact nc_I | exact nc_R | exact nc_n) dX2_sortByNumber_55 ?_
              refine V_goto (tgt := 19) hx dX2_sortByNumber_58 (by decide) ?_
              refine jh (k + -1) _ (by omega) (by omega) hF (fun a q ha => by rw [up_c ha]; exact hM a q ha) ?_ (fun q q0 q1 => ?_)
              · rw [up_F, show k + -1 = k - 1 by omega]
                exact sIn_s hI (by omega) (by show I w 0 < I (M 23 (k - 1)) 0; omega)
              · by_cases hq : q = k
                · rw [hq, up_s]; exact hek
                · rw [up_k hq]; exact hR q q0 q1
      exact INS i.toNat i M0 (by omega) (by omega) hF hM (sIn_0 _ hS) hR

set_option maxRecDepth 8000 in
theorem c_X2_lengthOf {l : Launch} {d : Dd} {z : Nat} {N : Int} {I : Mm} {r : Int} (hN : 67 ≤ N) (hF : Fx I) (hP : PkC I N) (hW : PkW I) (hz : I 22 1 ≤ 6) (hr : 0 ≤ r ∧ r < 64) : Cn l d z yX2_lengthOf cX2_lengthOf 4 (some .int) 0 0 0 0 [vR z 22, vI r] N I (pq (lnF I r (I 22 1).toNat) N I) := by
  refine Cn.ofA [(vR z 22, false), (vI r, false)] [some (vR z 22), some (vI r), none, none] RX2 (by decide) rfl ⟨cR z 22, rfl, trivial⟩ (Nat.le_of_ble_eq_true rfl) rfl (fun x ed el hx hini => ?_)
  have hl := hP.1
  refine V_iconst hx dX2_lengthOf_0 ?_
  refine V_istore_2 hx (by first | exact nc_I | exact nc_R | exact nc_n) dX2_lengthOf_1 ?_
  refine V_iconst hx dX2_lengthOf_2 ?_
  refine V_istore_3 hx (by first | exact nc_I | exact nc_R | exact nc_n) dX2_lengthOf_3 ?_
  refine loop_fld (α := Int) (fun acc i => acc + cif (bitP r i) (I (I 23 i) 4) 0) 0 (I 22 1) hl.1 (fun i acc => V x z _ N I 0 0 4 [some (vR z 22), some (vI r), some (vI acc), some (vI i)] []) ?_ ?_
  · refine V_iload_3 hx dX2_lengthOf_4 ?_
    refine V_aload_0 hx dX2_lengthOf_5 ?_
    refine V_getIx 1 hx hF flX2_21 dX2_lengthOf_6 rfl rfl (k22 hN) (fun r6 => ?_)
    refine V_icmp_ge (tgt := 42) hx dX2_lengthOf_9 (by decide) (by omega) (by omega) (fun h9 => ?_) (fun h9 => ?_)
    · refine V_iload_2 hx dX2_lengthOf_42 ?_
      refine V_ireturn hx dX2_lengthOf_43 (by omega) (by omega) ?_
      exact ⟨rfl, rfl, rfl, by have := lnF_b hW r (I 22 1).toNat (by omega); omega⟩
    · exfalso; omega
  · intro i hi0 hi1 ih
    have hac := lnF_b hW r i.toNat (by omega)
    unfold lnF at hac
    generalize fld _ _ _ = acc at ih hac ⊢
    have hen := hP.2 i hi0 hi1
    have hsh := wdC hen.1 hen.2
    have hwi := hW i hi0 hi1
    refine V_iload_3 hx dX2_lengthOf_4 ?_
    refine V_aload_0 hx dX2_lengthOf_5 ?_
    refine V_getIx 1 hx hF flX2_21 dX2_lengthOf_6 rfl rfl (k22 hN) (fun r6 => ?_)
    refine V_icmp_ge (tgt := 42) hx dX2_lengthOf_9 (by decide) (by omega) (by omega) (fun h9 => ?_) (fun h9 => ?_)
    · exfalso; omega
    · refine V_iload_2 hx dX2_lengthOf_12 ?_
      refine V_iload_1 hx dX2_lengthOf_13 ?_
      refine V_iload_3 hx dX2_lengthOf_14 ?_
      refine V_ishr hx (r / 2 ^ i.toNat) dX2_lengthOf_15 (b6_shr (by omega) (by omega)) ?_
      refine V_iconst hx dX2_lengthOf_16 ?_
      refine V_iand hx (r / 2 ^ i.toNat % 2) dX2_lengthOf_17 (oI_and1 _) ?_
      refine V_if_ne (tgt := 25) hx dX2_lengthOf_18 (by decide) (by omega) (fun h18 => ?_) (fun h18 => ?_)
      · refine V_aload_0 hx dX2_lengthOf_25 ?_
        refine V_getRe hx flX2_11 dX2_lengthOf_26 rfl (k22 hN) (hF.1 22 0 23 rfl) ?_
        refine V_iload_3 hx dX2_lengthOf_29 ?_
        refine V_aaload hx dX2_lengthOf_30 (k23 hN) (by unfold refK; omega) (by decide) (by omega) ?_
        refine V_getIx 4 hx hF flX2_62 dX2_lengthOf_31 rfl rfl (by assumption) (fun r31 => ?_)
        refine V_iadd hx dX2_lengthOf_34 ?_
        refine V_istore_2 hx (by first | exact nc_I | exact nc_R | exact nc_n) dX2_lengthOf_35 ?_
        refine V_iinc_3 hx (by first | exact nc_I | exact nc_R | exact nc_n) dX2_lengthOf_36 ?_
        refine V_goto (tgt := 4) hx dX2_lengthOf_39 (by decide) ?_
        first | (rw [cif_t (by unfold bitP; omega)] at ih; exact ih) | (rw [cif_f (by unfold bitP; omega)] at ih; exact ih)
      · refine V_iconst hx dX2_lengthOf_21 ?_
        refine V_goto (tgt := 34) hx dX2_lengthOf_22 (by decide) ?_
        refine V_iadd hx dX2_lengthOf_34 ?_
        refine V_istore_2 hx (by first | exact nc_I | exact nc_R | exact nc_n) dX2_lengthOf_35 ?_
        refine V_iinc_3 hx (by first | exact nc_I | exact nc_R | exact nc_n) dX2_lengthOf_36 ?_
        refine V_goto (tgt := 4) hx dX2_lengthOf_39 (by decide) ?_
        first | (rw [cif_t (by unfold bitP; omega)] at ih; exact ih) | (rw [cif_f (by unfold bitP; omega)] at ih; exact ih)

set_option maxRecDepth 8000 in
theorem c_X2_lateFrom {l : Launch} {d : Dd} {z : Nat} {N : Int} {I : Mm} {s i : Int} (hN : 67 ≤ N) (hF : Fx I) (hP : PkC I N) (hW : PkW I) (hs : 0 ≤ s ∧ s ≤ 200000) (hi : 0 ≤ i ∧ i < I 22 1) : Cn l d z yX2_lateFrom cX2_lateFrom 3 (some .int) 1 21 0 0 [vR z 22, vI s, vI i] N I (pq (ltF I s i) N I) := by
  refine Cn.ofA [(vR z 22, false), (vI s, false), (vI i, false)] [some (vR z 22), some (vI s), some (vI i)] RX2 (by decide) rfl ⟨cR z 22, rfl, rfl, trivial⟩ (Nat.le_of_ble_eq_true rfl) rfl (fun x ed el hx hini => ?_)
  have hi0 := hi.1
  have hi1 := hi.2
  have hl := hP.1
  have hen := hP.2 i hi0 hi1
  have hsh := wdC hen.1 hen.2
  have hwi := hW i hi0 hi1
  refine V_iconst hx dX2_lateFrom_0 ?_
  refine V_aload_0 hx dX2_lateFrom_1 ?_
  refine V_getRe hx flX2_11 dX2_lateFrom_2 rfl (k22 hN) (hF.1 22 0 23 rfl) ?_
  refine V_iload_2 hx dX2_lateFrom_5 ?_
  refine V_aaload hx dX2_lateFrom_6 (k23 hN) (by unfold refK; omega) (by decide) (by omega) ?_
  refine V_iload_1 hx dX2_lateFrom_7 ?_
  refine V_aload_0 hx dX2_lateFrom_8 ?_
  refine V_getRe hx flX2_11 dX2_lateFrom_9 rfl (k22 hN) (hF.1 22 0 23 rfl) ?_
  refine V_iload_2 hx dX2_lateFrom_12 ?_
  refine V_aaload hx dX2_lateFrom_13 (k23 hN) (by unfold refK; omega) (by decide) (by omega) ?_
  refine V_getIx 4 hx hF flX2_62 dX2_lateFrom_14 rfl rfl hsh (fun r14 => ?_)
  refine V_iadd hx dX2_lateFrom_17 ?_
  refine V_v1P hx el ed (c_X9_lateAt hF hsh) myX9_lateAt mlX2_65 dX2_lateFrom_18 ⟨_, rfl, rfl⟩ hsh (by decide) (by omega) rfl (by first | exact Nat.le_of_ble_eq_true rfl | (simp only [List.map_cons, List.map_nil, List.sum_cons, List.sum_nil, vR_cat, cat_I, cat_L]; decide)) ?_
  refine V_s2Q hx el ed (c_J9_max_7cf53 (by omega) (by omega)) myJ9_max_7cf53 mlX2_68 dX2_lateFrom_21 (by decide) (by omega) rfl (by first | exact Nat.le_of_ble_eq_true rfl | (simp only [List.map_cons, List.map_nil, List.sum_cons, List.sum_nil, vR_cat, cat_I, cat_L]; decide)) (fun r21 => ?_)
  refine V_ireturn hx dX2_lateFrom_24 (by omega) (by omega) ?_
  exact ⟨rfl, rfl, rfl, by unfold ltF; omega⟩

