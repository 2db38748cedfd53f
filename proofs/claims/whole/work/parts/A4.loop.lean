/-! ===== the law's loop ===== -/
theorem and31 (y : Int32) : 0 ≤ (y &&& 31).toInt ∧ (y &&& 31).toInt ≤ 31 := by
  have h : (y &&& 31).toBitVec.toNat = y.toBitVec.toNat % 32 := by
    show (y.toBitVec &&& 31#32).toNat = _
    rw [BitVec.toNat_and]
    exact Nat.and_two_pow_sub_one_eq_mod _ 5
  have h2 : (y &&& 31).toInt = (((y &&& 31).toBitVec.toNat : Nat) : Int) := by
    show (y &&& 31).toBitVec.toInt = _
    rw [BitVec.toInt_eq_toNat_of_lt (by rw [h]; omega)]
  rw [h2, h]
  omega
def PoL : Pst := fun r _ _ => r = some (vI 1)
theorem nc_q {q : Nat} : nc2 (some (.ref q)) := fun w h => by cases h; rfl
theorem law_loop {x : Cx} {z b L : Nat} {sx : Nat → Int32} {l : Launch} {d : Dd} {e : Ee} (h : LwC x z b L sx l d e) : ∀ (j : Nat) (i N : Int) (I : Mm) (k n : Nat), 0 ≤ i → i ≤ 3078 → (L : Int) + 6 ≤ i + 6 * j → k + 12 * j ≤ 600000 → n + 156 * j ≤ 7302250 → Inv I N → V x z PoL N I k n 18 [some (.ref b), some (vR z 0), some (vR z 49), some (vI i)] [] := by
  have hL := h.2.2.2.2.2.2.2
  intro j
  induction j with
  | zero =>
    intro i N I k n h0 h1 h2 hk hn hI
    refine V_iload_3 h.1 dL_law_18 ?_
    refine V_aload_0q h.1 dL_law_19 ?_
    refine V_slen h dL_law_20 ?_
    refine V_bipush h.1 dL_law_21 (by decide) ?_
    refine V_isub h.1 dL_law_23 ?_
    refine V_icmp_gt (tgt := 1110) h.1 dL_law_24 (by decide) (by omega) (by omega) (fun _ => ?_) (fun q => by omega)
    refine V_iconst h.1 dL_law_1110 ?_
    exact V_zreturn h.1 dL_law_1111 (Or.inr rfl) (by omega) (by omega) rfl
  | succ j ih =>
    intro i N I k n h0 h1 h2 hk hn hI
    refine V_iload_3 h.1 dL_law_18 ?_
    refine V_aload_0q h.1 dL_law_19 ?_
    refine V_slen h dL_law_20 ?_
    refine V_bipush h.1 dL_law_21 (by decide) ?_
    refine V_isub h.1 dL_law_23 ?_
    refine V_icmp_gt (tgt := 1110) h.1 dL_law_24 (by decide) (by omega) (by omega) (fun _ => ?_) (fun hle => ?_)
    · refine V_iconst h.1 dL_law_1110 ?_
      exact V_zreturn h.1 dL_law_1111 (Or.inr rfl) (by omega) (by omega) rfl
    · have hi : 0 ≤ i ∧ i + 6 ≤ (L : Int) := by omega
      have hkn : k + 12 ≤ 600000 ∧ n + 156 ≤ 7302250 := by omega
      have kk : ∀ (N' : Int) (I' : Mm), Inv I' N' → V x z PoL N' I' (k + 12) (n + 156) 1104 [some (.ref b), some (vR z 0), some (vR z 49), some (vI i)] [] := by
        intro N' I' hI'
        refine V_iinc_3 h.1 nc_R dL_law_1104 ?_
        refine V_goto (tgt := 18) h.1 dL_law_1107 (by decide) ?_
        exact ih (i + 6) N' I' (k + 12) (n + 156) (by omega) (by omega) (by omega) (by omega) (by omega) hI'
      refine V_aload_0q h.1 dL_law_27 ?_
      refine V_iload_3 h.1 dL_law_28 ?_
      refine V_sld h dL_law_29 (by omega) ?_
      refine V_bipush h.1 dL_law_30 (by decide) ?_
      refine V_iand h.1 _ dL_law_32 (Int32.ofInt_toInt _).symm ?_
      have ha := and31 (Int32.ofInt (sc sx i))
      have e31 : Int32.ofInt 31 = 31 := rfl
      rw [e31]
      generalize (Int32.ofInt (sc sx i) &&& 31).toInt = a at ha ⊢
      by_cases c : a ≤ 24
      · have hc : a = 0 ∨ a = 1 ∨ a = 2 ∨ a = 3 ∨ a = 4 ∨ a = 5 ∨ a = 6 ∨ a = 7 ∨ a = 8 ∨ a = 9 ∨ a = 10 ∨ a = 11 ∨ a = 12 ∨ a = 13 ∨ a = 14 ∨ a = 15 ∨ a = 16 ∨ a = 17 ∨ a = 18 ∨ a = 19 ∨ a = 20 ∨ a = 21 ∨ a = 22 ∨ a = 23 ∨ a = 24 := by omega
        rcases hc with rfl | rfl | rfl | rfl | rfl | rfl | rfl | rfl | rfl | rfl | rfl | rfl | rfl | rfl | rfl | rfl | rfl | rfl | rfl | rfl | rfl | rfl | rfl | rfl | rfl
        · exact V_tblIn (tgt := 148) h.1 dL_law_33 (by omega) (by decide) (by decide) rfl (by decide) (lwc_set h hi hI hkn kk)
        · exact V_tblIn (tgt := 191) h.1 dL_law_33 (by omega) (by decide) (by decide) rfl (by decide) (lwc_come h hi hI hkn kk)
        · exact V_tblIn (tgt := 224) h.1 dL_law_33 (by omega) (by decide) (by decide) rfl (by decide) (lwc_comes h hi hI hkn kk)
        · exact V_tblIn (tgt := 277) h.1 dL_law_33 (by omega) (by decide) (by decide) rfl (by decide) (lwc_type h hi hI hkn kk)
        · exact V_tblIn (tgt := 340) h.1 dL_law_33 (by omega) (by decide) (by decide) rfl (by decide) (lwc_rule h hi hI hkn kk)
        · exact V_tblIn (tgt := 363) h.1 dL_law_33 (by omega) (by decide) (by decide) rfl (by decide) (lwc_told h hi hI hkn kk)
        · exact V_tblIn (tgt := 396) h.1 dL_law_33 (by omega) (by decide) (by decide) rfl (by decide) (lwc_rank h hi hI hkn kk)
        · exact V_tblIn (tgt := 430) h.1 dL_law_33 (by omega) (by decide) (by decide) rfl (by decide) (lwc_full h hi hI hkn kk)
        · exact V_tblIn (tgt := 463) h.1 dL_law_33 (by omega) (by decide) (by decide) rfl (by decide) (lwc_ticks h hi hI hkn kk)
        · exact V_tblIn (tgt := 486) h.1 dL_law_33 (by omega) (by decide) (by decide) rfl (by decide) (lwc_next h hi hI hkn kk)
        · exact V_tblIn (tgt := 499) h.1 dL_law_33 (by omega) (by decide) (by decide) rfl (by decide) (lwc_count h hi hI hkn kk)
        · exact V_tblIn (tgt := 522) h.1 dL_law_33 (by omega) (by decide) (by decide) rfl (by decide) (lwc_sent h hi hI hkn kk)
        · exact V_tblIn (tgt := 545) h.1 dL_law_33 (by omega) (by decide) (by decide) rfl (by decide) (lwc_late h hi hI hkn kk)
        · exact V_tblIn (tgt := 568) h.1 dL_law_33 (by omega) (by decide) (by decide) rfl (by decide) (lwc_behind h hi hI hkn kk)
        · exact V_tblIn (tgt := 601) h.1 dL_law_33 (by omega) (by decide) (by decide) rfl (by decide) (lwc_promise h hi hI hkn kk)
        · exact V_tblIn (tgt := 634) h.1 dL_law_33 (by omega) (by decide) (by decide) rfl (by decide) (lwc_taken h hi hI hkn kk)
        · exact V_tblIn (tgt := 657) h.1 dL_law_33 (by omega) (by decide) (by decide) rfl (by decide) (lwc_lags h hi hI hkn kk)
        · exact V_tblIn (tgt := 680) h.1 dL_law_33 (by omega) (by decide) (by decide) rfl (by decide) (lwc_heaps h hi hI hkn kk)
        · exact V_tblIn (tgt := 743) h.1 dL_law_33 (by omega) (by decide) (by decide) rfl (by decide) (lwc_cut h hi hI hkn kk)
        · exact V_tblIn (tgt := 806) h.1 dL_law_33 (by omega) (by decide) (by decide) rfl (by decide) (lwc_found h hi hI hkn kk)
        · exact V_tblIn (tgt := 859) h.1 dL_law_33 (by omega) (by decide) (by decide) rfl (by decide) (lwc_order h hi hI hkn kk)
        · exact V_tblIn (tgt := 922) h.1 dL_law_33 (by omega) (by decide) (by decide) rfl (by decide) (lwc_sheet h hi hI hkn kk)
        · exact V_tblIn (tgt := 965) h.1 dL_law_33 (by omega) (by decide) (by decide) rfl (by decide) (lwc_drop h hi hI hkn kk)
        · exact V_tblIn (tgt := 988) h.1 dL_law_33 (by omega) (by decide) (by decide) rfl (by decide) (lwc_item h hi hI hkn kk)
        · exact V_tblIn (tgt := 1041) h.1 dL_law_33 (by omega) (by decide) (by decide) rfl (by decide) (lwc_copy h hi hI hkn kk)
      · exact V_tblOut (tgt := 1104) h.1 dL_law_33 (by omega) (Or.inr (by omega)) (by decide) (V_wid (by omega) (by omega) (kk N I hI))
/-- from the entry -/
theorem law_start {x : Cx} {z b L : Nat} {sx : Nat → Int32} {l : Launch} {d : Dd} {e : Ee} (h : LwC x z b L sx l d e) : V x z PoL 0 I00 0 0 0 [some (.ref b), none, none, none] [] := by
  have hL := h.2.2.2.2.2.2.2
  refine V_newO h.1 (ci := 10) f0I rfl klL_7 knX10 kiX10 dL_law_0 (by decide) rfl (fun j hj => by
    have : j = 0 ∨ j = 1 ∨ j = 2 ∨ j = 3 ∨ j = 4 ∨ j = 5 ∨ j = 6 ∨ j = 7 ∨ j = 8 ∨ j = 9 ∨ j = 10 := by omega
    rcases this with rfl | rfl | rfl | rfl | rfl | rfl | rfl | rfl | rfl | rfl | rfl <;> rfl) (by omega) ?_
  refine V_cnt (N' := 1) (k' := 1) (n' := 11) (by decide) rfl rfl ?_
  refine V_dupR h.1 dL_law_3 ?_
  refine V_i0N h.1 h.2.1 h.2.2.1 (c_X10_init h.2.2.2.1) myX10_init mlL_9 dL_law_4 (by decide) (by decide) (by omega) rfl (by first | exact Nat.le_of_ble_eq_true rfl | (simp only [List.map_cons, List.map_nil, List.sum_cons, List.sum_nil, vR_cat, cat_I, cat_L]; decide)) (fun N1 I1 ⟨eN, eI⟩ => ?_)
  subst eN; subst eI
  refine V_astore_1 h.1 nc_q dL_law_7 ?_
  refine V_newO h.1 (ci := 11) f49I rfl klL_10 knX11 kiX11 dL_law_8 (by decide) rfl (fun j hj => by
    have : j = 0 ∨ j = 1 ∨ j = 2 ∨ j = 3 ∨ j = 4 ∨ j = 5 ∨ j = 6 ∨ j = 7 ∨ j = 8 ∨ j = 9 ∨ j = 10 ∨ j = 11 ∨ j = 12 ∨ j = 13 ∨ j = 14 ∨ j = 15 ∨ j = 16 ∨ j = 17 ∨ j = 18 ∨ j = 19 ∨ j = 20 ∨ j = 21 ∨ j = 22 ∨ j = 23 ∨ j = 24 ∨ j = 25 := by omega
    rcases this with rfl | rfl | rfl | rfl | rfl | rfl | rfl | rfl | rfl | rfl | rfl | rfl | rfl | rfl | rfl | rfl | rfl | rfl | rfl | rfl | rfl | rfl | rfl | rfl | rfl | rfl <;> rfl) (by omega) ?_
  refine V_cnt (N' := 50) (k' := 50) (n' := 3551) (by decide) rfl rfl ?_
  refine V_dupR h.1 dL_law_11 ?_
  refine V_i0N h.1 h.2.1 h.2.2.1 c_X11_init myX11_init mlL_12 dL_law_12 (by decide) (by decide) (by omega) rfl (by first | exact Nat.le_of_ble_eq_true rfl | (simp only [List.map_cons, List.map_nil, List.sum_cons, List.sum_nil, vR_cat, cat_I, cat_L]; decide)) (fun N1 I1 ⟨eN, eI⟩ => ?_)
  subst eN
  refine V_mem Ist eI ?_
  refine V_astore_2 h.1 nc_R dL_law_15 ?_
  refine V_iconst h.1 dL_law_16 ?_
  refine V_istore_3 h.1 nc_R dL_law_17 ?_
  exact law_loop h 514 0 67 Ist _ _ (by decide) (by decide) (by omega) (by decide) (by decide) Inv_st
