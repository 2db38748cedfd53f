set_option maxRecDepth 8000 in
theorem c_X10_welcome {l : Launch} {d : Dd} {z : Nat} {N : Int} {I : Mm} {s ln : Int} (hN : 67 ≤ N) (hF : Fx I) (hWC : WelC I N) (hm : I 0 3 < 1000) (hs : 0 ≤ s ∧ s ≤ 7) (hl : 1 ≤ ln ∧ ln ≤ 99) : Cn l d z yX10_welcome cX10_welcome 4 (some .int) 5 115 1 13 [vR z 0, vI s, vI ln] N I (pI (fun r N' I' => r = I 0 3 ∧ N' = N + 1 ∧ Fx I' ∧ WelR I N s ln I')) := by
  refine Cn.ofA [(vR z 0, false), (vI s, false), (vI ln, false)] [some (vR z 0), some (vI s), some (vI ln), none] RX10 (by decide) rfl ⟨cR z 0, rfl, rfl, trivial⟩ (Nat.le_of_ble_eq_true rfl) rfl (fun x ed el hx hini => ?_)
  obtain ⟨hS, hz, hn, hc, h6, h7, h9, hst0⟩ := hWC
  have hs0 := hst0 s (by omega) (by omega)
  have hF0 := hF
  have eb1 : 25 + 2 * s + 1 = 26 + 2 * s := by omega
  have hq6 := hF.2.1 11 6
  have hq7 := hF.2.1 11 7
  refine V_newO hx (ci := 9) (fun _ => 0) rfl klX10_21 knX9 kiX9 dX10_welcome_0 (by omega) (shp_w (by omega)) (fun j hj => by
    have : j = 0 ∨ j = 1 ∨ j = 2 ∨ j = 3 ∨ j = 4 ∨ j = 5 ∨ j = 6 ∨ j = 7 ∨ j = 8 ∨ j = 9 ∨ j = 10 ∨ j = 11 ∨ j = 12 := by omega
    rcases this with rfl | rfl | rfl | rfl | rfl | rfl | rfl | rfl | rfl | rfl | rfl | rfl | rfl <;> rfl) (by omega) ?_
  obtain ⟨J, eJ⟩ : ∃ J : Mm, J = upR I N (fun _ => 0) := ⟨_, rfl⟩
  refine V_mem J eJ.symm ?_
  have fJ : ∀ c q : Int, c ≠ N → J c q = I c q := fun c q h => by rw [eJ, upR_q h]
  have hF : Fx J := by rw [eJ]; exact Fx_upR hF (fxA_w (by omega)) (fun _ => by omega) (by omega)
  have hN : 67 ≤ N + 1 := by omega
  have hsN : shk (N + 1) N (0, 9) := wdC (by omega) (by omega)
  have hst := stC hN hF (s := s) (by omega) (by omega)
  refine V_dupR hx dX10_welcome_3 ?_
  refine V_aload_0 hx dX10_welcome_4 ?_
  refine V_getIx 3 hx hF flX10_98 dX10_welcome_5 rfl rfl (k0 hN) (fun r5 => ?_)
  rw [fJ 0 3 (by omega)]
  refine V_aload_0 hx dX10_welcome_8 ?_
  refine V_getRe hx flX10_11 dX10_welcome_9 rfl (k0 hN) (hF.1 0 0 1 rfl) ?_
  refine V_iload_1 hx dX10_welcome_12 ?_
  refine V_aaload hx dX10_welcome_13 (k1 hN) (by unfold refK; omega) (by decide) (by omega) ?_
  rw [str_at hF (by omega) (by omega)]
  refine V_iload_2 hx dX10_welcome_14 ?_
  refine V_aload_0 hx dX10_welcome_15 ?_
  refine V_getRe hx flX10_60 dX10_welcome_16 rfl (k0 hN) (hF.1 0 8 11 rfl) ?_
  refine V_getIx 6 hx hF flX10_186 dX10_welcome_19 rfl rfl (k11 hN) (fun r19 => ?_)
  rw [fJ 11 6 (by omega)]
  refine V_aload_0 hx dX10_welcome_22 ?_
  refine V_getRe hx flX10_60 dX10_welcome_23 rfl (k0 hN) (hF.1 0 8 11 rfl) ?_
  refine V_getIx 7 hx hF flX10_228 dX10_welcome_26 rfl rfl (k11 hN) (fun r26 => ?_)
  rw [fJ 11 7 (by omega)]
  refine V_i5N hx el ed (c_X9_init (a := N) (b := 25 + 2 * s) hN hF hsN (by omega) hst (by omega) (by omega) (by omega) (by omega) (by rw [fJ _ 2 (by omega)]; omega) (by rw [fJ _ 3 (by omega)]; omega) (by rw [fJ _ 4 (by omega)]; omega) (by rw [eb1, fJ _ 1 (by omega)]; omega) (by rw [eb1, fJ _ 2 (by omega)]; omega) (by rw [eb1, fJ _ 3 (by omega)]; omega)) myX9_init mlX10_323 dX10_welcome_29 (by omega) (by decide) (by omega) rfl (by first | exact Nat.le_of_ble_eq_true rfl | (simp only [List.map_cons, List.map_nil, List.sum_cons, List.sum_nil, vR_cat, cat_I, cat_L]; decide)) (fun N1 I1 ⟨eN, hF, f1, w0, w1, w2, w3, w4, w5, w6, w7, w8, w9, w10, _⟩ => ?_)
  subst eN
  rw [eb1] at w2 w3 w6 w8 w9
  rw [fJ _ 0 (by omega), str_no hF0 (by omega) (by omega)] at w1
  rw [fJ _ 4 (by omega)] at w2
  rw [fJ _ 0 (by omega)] at w3
  rw [fJ _ 2 (by omega)] at w6
  rw [fJ _ 4 (by omega)] at w7
  rw [fJ _ 2 (by omega), fJ _ 1 (by omega)] at w8
  rw [fJ _ 4 (by omega), fJ _ 3 (by omega), fJ _ 3 (by omega)] at w9
  have g1 : ∀ c q : Int, c ≠ N → I1 c q = I c q := fun c q h => by rw [f1 c q h]; exact fJ c q h
  refine V_astore_3 hx (by first | exact nc_I | exact nc_R | exact nc_n) dX10_welcome_32 ?_
  refine V_aload_0 hx dX10_welcome_33 ?_
  refine V_getRe hx flX10_23 dX10_welcome_34 rfl (k0 hN) (hF.1 0 2 3 rfl) ?_
  refine V_aload_0 hx dX10_welcome_37 ?_
  refine V_getIx 3 hx hF flX10_98 dX10_welcome_38 rfl rfl (k0 hN) (fun r38 => ?_)
  rw [g1 0 3 (by omega)]
  refine V_aload_3 hx dX10_welcome_41 ?_
  refine V_aastorex hx hF dX10_welcome_42 (k3 hN) (by unfold refK; omega) (by decide) (by omega) (Or.inr hsN) (fx_none rfl _) (by omega) (Or.inl (by decide)) (fun hF => ?_)
  obtain ⟨M2, e2⟩ : ∃ M : Mm, M = up I1 3 (I 0 3) N := ⟨_, rfl⟩
  refine V_mem M2 e2.symm ?_
  rw [← e2] at hF
  refine V_aload_0 hx dX10_welcome_43 ?_
  refine V_dupR hx dX10_welcome_44 ?_
  refine V_getIx 3 hx hF flX10_98 dX10_welcome_45 rfl rfl (k0 hN) (fun r45 => ?_)
  rw [show M2 0 3 = I 0 3 by rw [e2, up_c (by decide), g1 0 3 (by omega)]]
  refine V_iconst hx dX10_welcome_48 ?_
  refine V_iadd hx dX10_welcome_49 ?_
  refine V_putIx 3 hx hF flX10_98 dX10_welcome_50 rfl rfl (fun r h => by cases h; rfl) (k0 hN) rfl (by omega) (Or.inl (by decide)) (fun hF => ?_)
  obtain ⟨M3, e3⟩ : ∃ M : Mm, M = up M2 0 3 (I 0 3 + 1) := ⟨_, rfl⟩
  refine V_mem M3 e3.symm ?_
  rw [← e3] at hF
  have g3 : ∀ c q : Int, ¬ (c = 3 ∧ q = I 0 3) → ¬ (c = 0 ∧ q = 3) → M3 c q = I1 c q := fun c q h1 h2 => by rw [e3, up_n (by omega), e2, up_n (by omega)]
  have hst3 := stC hN hF (s := s) (by omega) (by omega)
  refine V_aload_0 hx dX10_welcome_53 ?_
  refine V_getRe hx flX10_11 dX10_welcome_54 rfl (k0 hN) (hF.1 0 0 1 rfl) ?_
  refine V_iload_1 hx dX10_welcome_57 ?_
  refine V_aaload hx dX10_welcome_58 (k1 hN) (by unfold refK; omega) (by decide) (by omega) ?_
  rw [str_at hF (by omega) (by omega)]
  refine V_aload_3 hx dX10_welcome_59 ?_
  refine V_v1N hx el ed (c_X7_follow hF hst3 hsN (by omega) (by rw [g3 _ 4 (by omega) (by omega), g1 _ 4 (by omega)]; omega)) myX7_follow mlX10_326 dX10_welcome_60 ⟨_, rfl, rfl⟩ hst3.1 (by decide) (by omega) rfl (by first | exact Nat.le_of_ble_eq_true rfl | (simp only [List.map_cons, List.map_nil, List.sum_cons, List.sum_nil, vR_cat, cat_I, cat_L]; decide)) (fun N4 K ⟨eN4, eK, hF⟩ => ?_)
  subst eN4
  rw [g3 N 8 (by omega) (by omega), g3 N 9 (by omega) (by omega), g3 _ 4 (by omega) (by omega), g1 _ 4 (by omega), w8, w9] at eK
  have hK : NewR I N s ln K := by
    have z : ∀ c q : Int, ¬ (c = 25 + 2 * s ∧ (q = 2 ∨ q = 3 ∨ q = 4)) → K c q = M3 c q := fun c q h => by rw [eK, up_n (by omega), up_n (by omega), up_n (by omega)]
    have zn : ∀ q : Int, K N q = I1 N q := fun q => by rw [z N q (by omega), g3 N q (by omega) (by omega)]
    refine ⟨⟨by rw [zn, w0], by rw [zn, w1], by rw [zn, w2], by rw [zn, w3], by rw [zn, w4], by rw [zn, w5], by rw [zn, w6], by rw [zn, w7], by rw [zn, w8]; rfl, by rw [zn, w9]; rfl, by rw [zn, w10]⟩, ⟨?_, ?_, ?_, ?_, ?_⟩, fun c q h1 h2 h3 h4 => ?_⟩
    · rw [z 3 _ (by omega), e3, up_c (by decide), e2, up_s]
    · rw [z 0 3 (by omega), e3, up_s]
    · rw [eK, up_k (by decide), up_k (by decide), up_s]; rfl
    · rw [eK, up_k (by decide), up_s]; rfl
    · rw [eK, up_s]
    · rw [z c q h4, g3 c q h2 h3, g1 c q h1]
  have kf := hK.2.2
  have hSK : StoC K (N + 1) := StoC_of hS (by omega) (fun c q h => kf c q (by omega) (by omega) (by omega) (by omega))
  refine V_aload_0 hx dX10_welcome_63 ?_
  refine V_getRe hx flX10_60 dX10_welcome_64 rfl (k0 hN) (hF.1 0 8 11 rfl) ?_
  refine V_aload_3 hx dX10_welcome_67 ?_
  refine V_v1N hx el ed (c_X3_letIn hN hF hSK (by rw [kf 13 1 (by omega) (by omega) (by omega) (by omega)]; omega) (by rw [kf 15 1 (by omega) (by omega) (by omega) (by omega)]; omega) hsN (by omega) (by rw [hK.1.2.2.1]; omega) (by rw [kf 11 9 (by omega) (by omega) (by omega) (by omega)]; omega)) myX3_letIn mlX10_330 dX10_welcome_68 ⟨_, rfl, rfl⟩ (k11 hN) (by decide) (by omega) rfl (by first | exact Nat.le_of_ble_eq_true rfl | (simp only [List.map_cons, List.map_nil, List.sum_cons, List.sum_nil, vR_cat, cat_I, cat_L]; decide)) (fun N5 I5 ⟨eN5, eI5, hF⟩ => ?_)
  subst eN5
  refine V_aload_3 hx dX10_welcome_71 ?_
  refine V_getIx 0 hx hF flX10_203 dX10_welcome_72 rfl rfl hsN (fun r72 => ?_)
  refine V_ireturn hx dX10_welcome_75 (by omega) (by omega) ?_
  have en : I5 N 0 = I 0 3 := by rw [eI5, gLet_n (by omega) (by omega) (by decide)]; exact hK.1.1
  exact ⟨_, rfl, en, rfl, hF, K, hK, eI5⟩

