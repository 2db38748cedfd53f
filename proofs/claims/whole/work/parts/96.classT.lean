set_option maxRecDepth 8000 in
theorem c_X9_init {l : Launch} {d : Dd} {z : Nat} {N : Int} {I : Mm} {a b num ln t vt : Int} (hN : 67 ≤ N) (hF : Fx I) (ha : shk N a (0, 9)) (haw : 67 ≤ a) (hs : StC I N b) (hnm : 0 ≤ num ∧ num ≤ 1000) (hl : 0 ≤ ln ∧ ln ≤ 99) (ht : 0 ≤ t ∧ t ≤ 100000) (hv : 0 ≤ vt ∧ vt ≤ 10000000) (h2 : 0 ≤ I b 2 ∧ I b 2 ≤ 10000000) (h3 : 0 ≤ I b 3 ∧ I b 3 ≤ 10000000) (h4 : 0 ≤ I b 4 ∧ I b 4 ≤ 10000000) (hsh : 1 ≤ I (b + 1) 1 ∧ I (b + 1) 1 ≤ 16) (hdu : 0 ≤ I (b + 1) 2 ∧ I (b + 1) 2 ≤ 999) (hga : 0 ≤ I (b + 1) 3 ∧ I (b + 1) 3 ≤ 99) : Cn l d z yX9_init cX9_init 6 none 2 44 0 0 [vR z a, vI num, vR z b, vI ln, vI t, vI vt] N I (pN (fun N' I' => N' = N ∧ Fx I' ∧ (∀ c q : Int, c ≠ a → I' c q = I c q) ∧ I' a 0 = num ∧ I' a 1 = I b 0 ∧ I' a 2 = I (b + 1) 4 ∧ I' a 3 = I (b + 1) 0 ∧ I' a 4 = ln ∧ I' a 5 = t ∧ I' a 6 = t + I (b + 1) 2 ∧ I' a 7 = I b 4 ∧ I' a 8 = max (I b 2) vt + 16 * ln / I (b + 1) 1 ∧ I' a 9 = cif (I b 4 = 0) t (max t (I b 3 + I (b + 1) 3)) ∧ I' a 10 = 0 ∧ I' a 11 = I a 11 ∧ I' a 12 = I a 12)) := by
  refine Cn.ofA [(vR z a, false), (vI num, false), (vR z b, false), (vI ln, false), (vI t, false), (vI vt, false)] [some (vR z a), some (vI num), some (vR z b), some (vI ln), some (vI t), some (vI vt)] RX9 (by decide) rfl ⟨cR z a, rfl, cR z b, rfl, rfl, rfl, trivial⟩ (Nat.le_of_ble_eq_true rfl) rfl (fun x ed el hx hini => ?_)
  have q1 := hF.2.1 b 0
  have q2 := hF.2.1 (b + 1) 4
  have q3 := hF.2.1 (b + 1) 0
  obtain ⟨M0, eM0⟩ : ∃ M : Mm, M = I := ⟨_, rfl⟩
  refine V_mem M0 eM0.symm ?_
  have f0 : ∀ c q : Int, c ≠ a → M0 c q = I c q := fun c q _ => by rw [eM0]
  have hbd := hs.2.2.2.1
  have hF : Fx M0 := by rw [eM0]; exact hF
  refine V_aload_0 hx dX9_init_0 ?_
  refine V_objInit hx mlX9_3 dX9_init_1 (by omega) (by decide) rfl (by first | exact Nat.le_of_ble_eq_true rfl | simp [vI, vL, vR_cat, Value.category]) ?_
  refine V_aload_0 hx dX9_init_4 ?_
  refine V_iconst hx dX9_init_5 ?_
  refine V_putIx 10 hx hF flX9_9 dX9_init_6 rfl rfl (fun r h => by cases h; rfl) ha (fx_word (by omega) _) (by omega) (Or.inl (by omega)) (fun hF => ?_)
  obtain ⟨M1, eM1⟩ : ∃ M : Mm, M = up M0 a 10 (0) := ⟨_, rfl⟩
  refine V_mem M1 eM1.symm ?_
  have f1 : ∀ c q : Int, c ≠ a → M1 c q = I c q := fun c q h => by rw [eM1, up_c h]; exact f0 c q h
  have hF : Fx M1 := by rw [eM1]; exact hF
  refine V_aload_0 hx dX9_init_9 ?_
  refine V_iload_1 hx dX9_init_10 ?_
  refine V_putIFg 0 hx flX9_15 dX9_init_11 rfl rfl (fun r h => by cases h; exact ⟨rfl, rfl⟩) (hini rfl) ha ?_
  obtain ⟨M2, eM2⟩ : ∃ M : Mm, M = up M1 a 0 (num) := ⟨_, rfl⟩
  refine V_mem M2 eM2.symm ?_
  have f2 : ∀ c q : Int, c ≠ a → M2 c q = I c q := fun c q h => by rw [eM2, up_c h]; exact f1 c q h
  have hF : Fx M2 := by rw [eM2]; exact Fx.up hF (fx_word (by omega) _) (by omega) (Or.inl (by omega))
  refine V_aload_0 hx dX9_init_14 ?_
  refine V_aload_2 hx dX9_init_15 ?_
  refine V_getIx 0 hx hF flX9_18 dX9_init_16 rfl rfl hs.1 (fun r16 => ?_)
  rw [f2 b 0 (by omega)]
  refine V_putIFg 1 hx flX9_21 dX9_init_19 rfl rfl (fun r h => by cases h; exact ⟨rfl, rfl⟩) (hini rfl) ha ?_
  obtain ⟨M3, eM3⟩ : ∃ M : Mm, M = up M2 a 1 (I b 0) := ⟨_, rfl⟩
  refine V_mem M3 eM3.symm ?_
  have f3 : ∀ c q : Int, c ≠ a → M3 c q = I c q := fun c q h => by rw [eM3, up_c h]; exact f2 c q h
  have hF : Fx M3 := by rw [eM3]; exact Fx.up hF (fx_word (by omega) _) (by omega) (Or.inl (by omega))
  refine V_aload_0 hx dX9_init_22 ?_
  refine V_aload_2 hx dX9_init_23 ?_
  refine V_getRe hx flX9_24 dX9_init_24 rfl hs.1 (show M3 b 1 = b + 1 by rw [f3 b 1 (by omega)]; exact hs.2.1) ?_
  refine V_iconst hx dX9_init_27 ?_
  refine V_ialoadx hx hF dX9_init_28 hs.2.2.1 (by decide) (by omega) (fun r28 => ?_)
  rw [f3 (b + 1) 4 (by omega)]
  refine V_putIFg 2 hx flX9_28 dX9_init_29 rfl rfl (fun r h => by cases h; exact ⟨rfl, rfl⟩) (hini rfl) ha ?_
  obtain ⟨M4, eM4⟩ : ∃ M : Mm, M = up M3 a 2 (I (b + 1) 4) := ⟨_, rfl⟩
  refine V_mem M4 eM4.symm ?_
  have f4 : ∀ c q : Int, c ≠ a → M4 c q = I c q := fun c q h => by rw [eM4, up_c h]; exact f3 c q h
  have hF : Fx M4 := by rw [eM4]; exact Fx.up hF (fx_word (by omega) _) (by omega) (Or.inl (by omega))
  refine V_aload_0 hx dX9_init_32 ?_
  refine V_aload_2 hx dX9_init_33 ?_
  refine V_getRe hx flX9_24 dX9_init_34 rfl hs.1 (show M4 b 1 = b + 1 by rw [f4 b 1 (by omega)]; exact hs.2.1) ?_
  refine V_iconst hx dX9_init_37 ?_
  refine V_ialoadx hx hF dX9_init_38 hs.2.2.1 (by decide) (by omega) (fun r38 => ?_)
  rw [f4 (b + 1) 0 (by omega)]
  refine V_putIFg 3 hx flX9_31 dX9_init_39 rfl rfl (fun r h => by cases h; exact ⟨rfl, rfl⟩) (hini rfl) ha ?_
  obtain ⟨M5, eM5⟩ : ∃ M : Mm, M = up M4 a 3 (I (b + 1) 0) := ⟨_, rfl⟩
  refine V_mem M5 eM5.symm ?_
  have f5 : ∀ c q : Int, c ≠ a → M5 c q = I c q := fun c q h => by rw [eM5, up_c h]; exact f4 c q h
  have hF : Fx M5 := by rw [eM5]; exact Fx.up hF (fx_word (by omega) _) (by omega) (Or.inl (by omega))
  refine V_aload_0 hx dX9_init_42 ?_
  refine V_iload_3 hx dX9_init_43 ?_
  refine V_putIFg 4 hx flX9_34 dX9_init_44 rfl rfl (fun r h => by cases h; exact ⟨rfl, rfl⟩) (hini rfl) ha ?_
  obtain ⟨M6, eM6⟩ : ∃ M : Mm, M = up M5 a 4 (ln) := ⟨_, rfl⟩
  refine V_mem M6 eM6.symm ?_
  have f6 : ∀ c q : Int, c ≠ a → M6 c q = I c q := fun c q h => by rw [eM6, up_c h]; exact f5 c q h
  have hF : Fx M6 := by rw [eM6]; exact Fx.up hF (fx_word (by omega) _) (by omega) (Or.inl (by omega))
  refine V_aload_0 hx dX9_init_47 ?_
  refine V_iload_4 hx dX9_init_48 ?_
  refine V_putIFg 5 hx flX9_37 dX9_init_50 rfl rfl (fun r h => by cases h; exact ⟨rfl, rfl⟩) (hini rfl) ha ?_
  obtain ⟨M7, eM7⟩ : ∃ M : Mm, M = up M6 a 5 (t) := ⟨_, rfl⟩
  refine V_mem M7 eM7.symm ?_
  have f7 : ∀ c q : Int, c ≠ a → M7 c q = I c q := fun c q h => by rw [eM7, up_c h]; exact f6 c q h
  have hF : Fx M7 := by rw [eM7]; exact Fx.up hF (fx_word (by omega) _) (by omega) (Or.inl (by omega))
  refine V_aload_0 hx dX9_init_53 ?_
  refine V_iload_4 hx dX9_init_54 ?_
  refine V_aload_2 hx dX9_init_56 ?_
  refine V_getRe hx flX9_24 dX9_init_57 rfl hs.1 (show M7 b 1 = b + 1 by rw [f7 b 1 (by omega)]; exact hs.2.1) ?_
  refine V_iconst hx dX9_init_60 ?_
  refine V_ialoadx hx hF dX9_init_61 hs.2.2.1 (by decide) (by omega) (fun r61 => ?_)
  rw [f7 (b + 1) 2 (by omega)]
  refine V_iadd hx dX9_init_62 ?_
  refine V_putIFg 6 hx flX9_40 dX9_init_63 rfl rfl (fun r h => by cases h; exact ⟨rfl, rfl⟩) (hini rfl) ha ?_
  obtain ⟨M8, eM8⟩ : ∃ M : Mm, M = up M7 a 6 (t + I (b + 1) 2) := ⟨_, rfl⟩
  refine V_mem M8 eM8.symm ?_
  have f8 : ∀ c q : Int, c ≠ a → M8 c q = I c q := fun c q h => by rw [eM8, up_c h]; exact f7 c q h
  have hF : Fx M8 := by rw [eM8]; exact Fx.up hF (fx_word (by omega) _) (by omega) (Or.inl (by omega))
  refine V_aload_0 hx dX9_init_66 ?_
  refine V_aload_2 hx dX9_init_67 ?_
  refine V_getIx 4 hx hF flX9_43 dX9_init_68 rfl rfl hs.1 (fun r68 => ?_)
  rw [f8 b 4 (by omega)]
  refine V_putIFg 7 hx flX9_46 dX9_init_71 rfl rfl (fun r h => by cases h; exact ⟨rfl, rfl⟩) (hini rfl) ha ?_
  obtain ⟨M9, eM9⟩ : ∃ M : Mm, M = up M8 a 7 (I b 4) := ⟨_, rfl⟩
  refine V_mem M9 eM9.symm ?_
  have f9 : ∀ c q : Int, c ≠ a → M9 c q = I c q := fun c q h => by rw [eM9, up_c h]; exact f8 c q h
  have hF : Fx M9 := by rw [eM9]; exact Fx.up hF (fx_word (by omega) _) (by omega) (Or.inl (by omega))
  refine V_aload_0 hx dX9_init_74 ?_
  refine V_aload_2 hx dX9_init_75 ?_
  refine V_iload_3 hx dX9_init_76 ?_
  refine V_iload_5 hx dX9_init_77 ?_
  refine V_v2Q hx el ed (c_X7_endFor hF (show StC M9 N b from ⟨hs.1, by rw [f9 b 1 (by omega)]; exact hs.2.1, hs.2.2.1, hs.2.2.2⟩) (by omega) (by omega) (by rw [f9 b 2 (by omega)]; omega) (by rw [f9 (b + 1) 1 (by omega)]; omega)) myX7_endFor mlX9_49 dX9_init_79 ⟨_, rfl, rfl⟩ hs.1 (by decide) (by omega) rfl (by first | exact Nat.le_of_ble_eq_true rfl | (simp only [List.map_cons, List.map_nil, List.sum_cons, List.sum_nil, vR_cat, cat_I, cat_L]; decide)) (fun r79 => ?_)
  rw [f9 b 2 (by omega), f9 (b + 1) 1 (by omega)] at r79
  rw [f9 b 2 (by omega), f9 (b + 1) 1 (by omega)]
  refine V_putIFg 8 hx flX9_53 dX9_init_82 rfl rfl (fun r h => by cases h; exact ⟨rfl, rfl⟩) (hini rfl) ha ?_
  obtain ⟨M10, eM10⟩ : ∃ M : Mm, M = up M9 a 8 (max (I b 2) vt + 16 * ln / I (b + 1) 1) := ⟨_, rfl⟩
  refine V_mem M10 eM10.symm ?_
  have f10 : ∀ c q : Int, c ≠ a → M10 c q = I c q := fun c q h => by rw [eM10, up_c h]; exact f9 c q h
  have hF : Fx M10 := by rw [eM10]; exact Fx.up hF (fx_word (by omega) _) (by omega) (Or.inl (by omega))
  refine V_aload_0 hx dX9_init_85 ?_
  refine V_aload_2 hx dX9_init_86 ?_
  refine V_iload_4 hx dX9_init_87 ?_
  refine V_v1Q hx el ed (c_X7_gateAt hF (show StC M10 N b from ⟨hs.1, by rw [f10 b 1 (by omega)]; exact hs.2.1, hs.2.2.1, hs.2.2.2⟩) (by omega) (by rw [f10 b 3 (by omega), f10 (b + 1) 3 (by omega)]; omega)) myX7_gateAt mlX9_56 dX9_init_89 ⟨_, rfl, rfl⟩ hs.1 (by decide) (by omega) rfl (by first | exact Nat.le_of_ble_eq_true rfl | (simp only [List.map_cons, List.map_nil, List.sum_cons, List.sum_nil, vR_cat, cat_I, cat_L]; decide)) (fun r89 => ?_)
  rw [f10 b 4 (by omega), f10 b 3 (by omega), f10 (b + 1) 3 (by omega)] at r89
  rw [f10 b 4 (by omega), f10 b 3 (by omega), f10 (b + 1) 3 (by omega)]
  refine V_putIFg 9 hx flX9_60 dX9_init_92 rfl rfl (fun r h => by cases h; exact ⟨rfl, rfl⟩) (hini rfl) ha ?_
  obtain ⟨M11, eM11⟩ : ∃ M : Mm, M = up M10 a 9 (cif (I b 4 = 0) t (max t (I b 3 + I (b + 1) 3))) := ⟨_, rfl⟩
  refine V_mem M11 eM11.symm ?_
  have f11 : ∀ c q : Int, c ≠ a → M11 c q = I c q := fun c q h => by rw [eM11, up_c h]; exact f10 c q h
  have hF : Fx M11 := by rw [eM11]; exact Fx.up hF (fx_word (by omega) _) (by omega) (Or.inl (by omega))
  refine V_return hx dX9_init_95 (by omega) (by omega) ?_
  exact ⟨rfl, rfl, hF, fun c q h => f11 c q h, by rw [eM11, up_k (by decide), eM10, up_k (by decide), eM9, up_k (by decide), eM8, up_k (by decide), eM7, up_k (by decide), eM6, up_k (by decide), eM5, up_k (by decide), eM4, up_k (by decide), eM3, up_k (by decide), eM2, up_s], by rw [eM11, up_k (by decide), eM10, up_k (by decide), eM9, up_k (by decide), eM8, up_k (by decide), eM7, up_k (by decide), eM6, up_k (by decide), eM5, up_k (by decide), eM4, up_k (by decide), eM3, up_s], by rw [eM11, up_k (by decide), eM10, up_k (by decide), eM9, up_k (by decide), eM8, up_k (by decide), eM7, up_k (by decide), eM6, up_k (by decide), eM5, up_k (by decide), eM4, up_s], by rw [eM11, up_k (by decide), eM10, up_k (by decide), eM9, up_k (by decide), eM8, up_k (by decide), eM7, up_k (by decide), eM6, up_k (by decide), eM5, up_s], by rw [eM11, up_k (by decide), eM10, up_k (by decide), eM9, up_k (by decide), eM8, up_k (by decide), eM7, up_k (by decide), eM6, up_s], by rw [eM11, up_k (by decide), eM10, up_k (by decide), eM9, up_k (by decide), eM8, up_k (by decide), eM7, up_s], by rw [eM11, up_k (by decide), eM10, up_k (by decide), eM9, up_k (by decide), eM8, up_s], by rw [eM11, up_k (by decide), eM10, up_k (by decide), eM9, up_s], by rw [eM11, up_k (by decide), eM10, up_s], by rw [eM11, up_s], by rw [eM11, up_k (by decide), eM10, up_k (by decide), eM9, up_k (by decide), eM8, up_k (by decide), eM7, up_k (by decide), eM6, up_k (by decide), eM5, up_k (by decide), eM4, up_k (by decide), eM3, up_k (by decide), eM2, up_k (by decide), eM1, up_s], by rw [eM11, up_k (by decide), eM10, up_k (by decide), eM9, up_k (by decide), eM8, up_k (by decide), eM7, up_k (by decide), eM6, up_k (by decide), eM5, up_k (by decide), eM4, up_k (by decide), eM3, up_k (by decide), eM2, up_k (by decide), eM1, up_k (by decide), eM0], by rw [eM11, up_k (by decide), eM10, up_k (by decide), eM9, up_k (by decide), eM8, up_k (by decide), eM7, up_k (by decide), eM6, up_k (by decide), eM5, up_k (by decide), eM4, up_k (by decide), eM3, up_k (by decide), eM2, up_k (by decide), eM1, up_k (by decide), eM0]⟩

