section TC
variable {M U : Mm} {n : Int}
theorem lnB_c (h55 : ∀ q : Int, M 55 q = U 55 q) (h61 : ∀ q : Int, 0 ≤ q → q < n → M 61 q = U 61 q) (r : Int) : lnB M r n.toNat = lnB U r n.toNat := by
  refine sm_c (fun i a b => ?_)
  show cif (bitP r i) (M 55 (13 * M 61 i + 1)) 0 = cif (bitP r i) (U 55 (13 * U 61 i + 1)) 0
  rw [h61 i a (by omega), h55]
theorem ltB_c (h55 : ∀ q : Int, M 55 q = U 55 q) (h61 : ∀ q : Int, 0 ≤ q → q < n → M 61 q = U 61 q) (s : Int) {i : Int} (a : 0 ≤ i) (b : i < n) : ltB M s i = ltB U s i := by
  show max 0 (s + M 55 (13 * M 61 i + 1) - M 55 (13 * M 61 i + 3)) = max 0 (s + U 55 (13 * U 61 i + 1) - U 55 (13 * U 61 i + 3))
  rw [h61 i a b, h55, h55]
theorem bbM_c (h55 : ∀ q : Int, M 55 q = U 55 q) (h7 : M 49 7 = U 49 7) (h61 : ∀ q : Int, 0 ≤ q → q < n → M 61 q = U 61 q) {E : Int → Int} {r : Int} : bbM M E n r = bbM U E n r := by
  refine fstA_c (fun i a b => ?_)
  rw [lnB_c h55 h61, h7, ltB_c h55 h61 _ a (by omega)]
theorem gnM_c (h55 : ∀ q : Int, M 55 q = U 55 q) (h7 : M 49 7 = U 49 7) (h61 : ∀ q : Int, 0 ≤ q → q < n → M 61 q = U 61 q) {E : Int → Int} {r : Int} {j : Nat} : gnM M E n r j = gnM U E n r j := by
  induction j with
  | zero => rfl
  | succ j ih => rw [gnM, gnM, ih, bbM_c h55 h7 h61]
theorem TbM_c (h55 : ∀ q : Int, M 55 q = U 55 q) (h7 : M 49 7 = U 49 7) (h61 : ∀ q : Int, 0 ≤ q → q < n → M 61 q = U 61 q) {E : Int → Int} (h : TbM U E n) : TbM M E n := by
  refine ⟨h.1, fun r r0 r1 => ⟨fun i a b c => ?_, ?_⟩, h.2.2⟩
  · rw [lnB_c h55 h61, h7, ltB_c h55 h61 _ a b]; exact (h.2.1 r r0 r1).1 i a b c
  · rw [bbM_c h55 h7 h61]; exact (h.2.1 r r0 r1).2
theorem bbM_r (I : Mm) (E : Int → Int) (n r : Int) : bbM I E n r = -1 ∨ (0 ≤ bbM I E n r ∧ bbM I E n r < n ∧ ¬ bitP r (bbM I E n r)) := by
  rcases fstA_r (fun i => ¬ bitP r i ∧ ltB I (I 49 7 + lnB I r n.toNat) i + E (r + 2 ^ i.toNat) = E r) n.toNat with h | ⟨h1, h2, h3⟩
  · exact Or.inl h
  · exact Or.inr ⟨h1, by unfold bbM; omega, h3.1⟩
theorem gnM_ok {I : Mm} {E : Int → Int} (hT : TbM I E n) (hn : 1 ≤ n ∧ n ≤ 6) : ∀ j : Nat, (j : Int) < n → 0 ≤ gnM I E n 0 j ∧ gnM I E n 0 j < 2 ^ n.toNat - 1 ∧ cntW (bitP (gnM I E n 0 j)) n.toNat = j
  | 0, hj => by
    have hp := pw_b (i := n) (by omega)
    have e0 : cntW (bitP 0) n.toNat = 0 := cntW_0 (fun w _ _ => bit_0 w)
    refine ⟨Int.le_refl _, ?_, e0⟩
    exact pc_lt (r := 0) (by omega) ⟨by omega, by omega⟩ (by rw [e0]; omega)
  | j + 1, hj => by
    obtain ⟨a, b, c⟩ := gnM_ok hT hn j (by omega)
    have hb := (hT.2.1 _ a b).2
    rcases bbM_r I E n (gnM I E n 0 j) with d | ⟨d1, d2, d3⟩
    · omega
    · have ha := b6_add (n := n) (r := gnM I E n 0 j) (i := bbM I E n (gnM I E n 0 j)) (by omega) ⟨a, by omega⟩ ⟨d1, d2⟩ d3
      have hc := pc_add (n := n) (r := gnM I E n 0 j) (i := bbM I E n (gnM I E n 0 j)) (by omega) ⟨a, by omega⟩ ⟨d1, d2⟩ d3
      have hp := pw_b (i := bbM I E n (gnM I E n 0 j)) (by omega)
      have e : gnM I E n 0 (j + 1) = gnM I E n 0 j + 2 ^ (bbM I E n (gnM I E n 0 j)).toNat := rfl
      rw [← e] at ha hc
      have hc2 : cntW (bitP (gnM I E n 0 (j + 1))) n.toNat = ((j + 1 : Nat) : Int) := by omega
      exact ⟨by omega, pc_lt (r := gnM I E n 0 (j + 1)) (by omega) ⟨by omega, ha.2.1⟩ (by omega), hc2⟩
theorem bbM_lt {I : Mm} {E : Int → Int} (hT : TbM I E n) (hn : 1 ≤ n ∧ n ≤ 6) (j : Nat) (hj : (j : Int) < n) : 0 ≤ bbM I E n (gnM I E n 0 j) ∧ bbM I E n (gnM I E n 0 j) < n := by
  obtain ⟨a, b, -⟩ := gnM_ok hT hn j hj
  have hb := (hT.2.1 _ a b).2
  rcases bbM_r I E n (gnM I E n 0 j) with d | ⟨d1, d2, -⟩
  · omega
  · exact ⟨d1, d2⟩
end TC

set_option maxRecDepth 8000 in
theorem c_X11_order {l : Launch} {d : Dd} {z : Nat} {N : Int} {I : Mm} {E g : Int → Int} {s lane i0 n k : Int} (hN : 67 ≤ N) (hF : Fx I) (hs0 : ∀ q : Int, 0 ≤ q → q ≤ 3 → 0 ≤ I 59 q ∧ I 59 q ≤ 24) (hm : 0 ≤ I 49 6 ∧ I 49 6 ≤ 1000) (h7 : 0 ≤ I 49 7 ∧ I 49 7 ≤ 100000) (hW : ∀ w : Int, 0 ≤ w → w < I 49 6 → (0 ≤ I 55 (13 * w + 1) ∧ I 55 (13 * w + 1) ≤ 99) ∧ (0 ≤ I 55 (13 * w + 3) ∧ I 55 (13 * w + 3) ≤ 150000)) (hE : ((0 ≤ s ∧ s ≤ 3) ∧ (0 ≤ lane ∧ lane ≤ 2) ∧ (1 ≤ n ∧ n ≤ 6) ∧ (-1 ≤ k ∧ k ≤ n - 1)) → pkF I s lane i0 n 1 = 0 → (∀ p q : Int, 0 ≤ p → p < q → q < n → g p < g q) ∧ (∀ v : Int, (∃ q : Int, 0 ≤ q ∧ q < n ∧ g q = v) ↔ (∃ q : Int, 0 ≤ q ∧ q < n ∧ itm I s i0 q = v)) ∧ TbM (upR I 61 g) E n) (hs : -2147483648 ≤ s ∧ s ≤ 2147483647) (hlane : -2147483648 ≤ lane ∧ lane ≤ 2147483647) (hi0 : -2147483648 ≤ i0 ∧ i0 ≤ 2147483647) (hn : -2147483648 ≤ n ∧ n ≤ 2147483647) (hk : -2147483648 ≤ k ∧ k ≤ 2147483647) : Cn l d z yX11_order cX11_order 10 (some .int) 3 72 0 0 [vR z 49, vI s, vI lane, vI i0, vI n, vI k] N I (pI (fun r N' I' => N' = N ∧ Fx I' ∧ (∀ a q : Int, a ≠ 61 → a ≠ 65 → a ≠ 66 → I' a q = I a q) ∧ (¬ ((0 ≤ s ∧ s ≤ 3) ∧ (0 ≤ lane ∧ lane ≤ 2) ∧ (1 ≤ n ∧ n ≤ 6) ∧ (-1 ≤ k ∧ k ≤ n - 1)) → r = -1) ∧ (((0 ≤ s ∧ s ≤ 3) ∧ (0 ≤ lane ∧ lane ≤ 2) ∧ (1 ≤ n ∧ n ≤ 6) ∧ (-1 ≤ k ∧ k ≤ n - 1)) → pkF I s lane i0 n 1 ≠ 0 → r = pkF I s lane i0 n 1) ∧ (((0 ≤ s ∧ s ≤ 3) ∧ (0 ≤ lane ∧ lane ≤ 2) ∧ (1 ≤ n ∧ n ≤ 6) ∧ (-1 ≤ k ∧ k ≤ n - 1)) → pkF I s lane i0 n 1 = 0 → r = cif (k = -1) (E 0) (g (bbM (upR I 61 g) E n (gnM (upR I 61 g) E n 0 k.toNat)))))) := by
  refine Cn.ofA [(vR z 49, false), (vI s, false), (vI lane, false), (vI i0, false), (vI n, false), (vI k, false)] [some (vR z 49), some (vI s), some (vI lane), some (vI i0), some (vI n), some (vI k), none, none, none, none] RX11 (by decide) rfl ⟨cR z 49, rfl, rfl, rfl, rfl, rfl, trivial⟩ (Nat.le_of_ble_eq_true rfl) rfl (fun x ed el hx hini => ?_)
  have hsn := hm
  refine V_iload_1 hx dX11_order_0 ?_
  refine V_s1P hx el ed (c_X11_isSheet (by omega)) myX11_isSheet mlX11_140 dX11_order_1 (by decide) (by omega) rfl (by first | exact Nat.le_of_ble_eq_true rfl | (simp only [List.map_cons, List.map_nil, List.sum_cons, List.sum_nil, vR_cat, cat_I, cat_L]; decide)) ?_
  refine V_ifB_eq (tgt := 44) hx dX11_order_4 (by decide) (fun h4 => ?_) (fun h4 => ?_)
  · refine V_iconst hx dX11_order_44 ?_
    refine V_ireturn hx dX11_order_45 (by omega) (by omega) ?_
    exact ⟨_, rfl, rfl, hF, fun _ _ _ _ _ => rfl, fun _ => rfl, fun h => absurd h (by omega), fun h => absurd h (by omega)⟩
  · refine V_iload_2 hx dX11_order_7 ?_
    refine V_s1P hx el ed (c_X11_isLane (by omega)) myX11_isLane mlX11_143 dX11_order_8 (by decide) (by omega) rfl (by first | exact Nat.le_of_ble_eq_true rfl | (simp only [List.map_cons, List.map_nil, List.sum_cons, List.sum_nil, vR_cat, cat_I, cat_L]; decide)) ?_
    refine V_ifB_eq (tgt := 44) hx dX11_order_11 (by decide) (fun h11 => ?_) (fun h11 => ?_)
    · refine V_iconst hx dX11_order_44 ?_
      refine V_ireturn hx dX11_order_45 (by omega) (by omega) ?_
      exact ⟨_, rfl, rfl, hF, fun _ _ _ _ _ => rfl, fun _ => rfl, fun h => absurd h (by omega), fun h => absurd h (by omega)⟩
    · refine V_iload_4 hx dX11_order_14 ?_
      refine V_i2l hx dX11_order_16 (by omega) ?_
      refine V_lconst (v := 1) hx dX11_order_17 (by decide) ?_
      refine V_ldc2 (v := 6) hx kcX11_256 dX11_order_18 (by decide) ?_
      refine V_s3P hx el ed (c_X11_in (by omega) (by omega) (by omega)) myX11_in mlX11_70 dX11_order_21 (by decide) (by omega) rfl (by first | exact Nat.le_of_ble_eq_true rfl | (simp only [List.map_cons, List.map_nil, List.sum_cons, List.sum_nil, vR_cat, cat_I, cat_L]; decide)) ?_
      refine V_ifB_eq (tgt := 44) hx dX11_order_24 (by decide) (fun h24 => ?_) (fun h24 => ?_)
      · refine V_iconst hx dX11_order_44 ?_
        refine V_ireturn hx dX11_order_45 (by omega) (by omega) ?_
        exact ⟨_, rfl, rfl, hF, fun _ _ _ _ _ => rfl, fun _ => rfl, fun h => absurd h (by omega), fun h => absurd h (by omega)⟩
      · refine V_iload_5 hx dX11_order_27 ?_
        refine V_i2l hx dX11_order_29 (by omega) ?_
        refine V_ldc2 (v := -1) hx kcX11_258 dX11_order_30 (by decide) ?_
        refine V_iload_4 hx dX11_order_33 ?_
        refine V_iconst hx dX11_order_35 ?_
        refine V_isub hx dX11_order_36 ?_
        refine V_i2l hx dX11_order_37 (by omega) ?_
        refine V_s3P hx el ed (c_X11_in (by omega) (by omega) (by omega)) myX11_in mlX11_70 dX11_order_38 (by decide) (by omega) rfl (by first | exact Nat.le_of_ble_eq_true rfl | (simp only [List.map_cons, List.map_nil, List.sum_cons, List.sum_nil, vR_cat, cat_I, cat_L]; decide)) ?_
        refine V_ifB_ne (tgt := 46) hx dX11_order_41 (by decide) (fun h41 => ?_) (fun h41 => ?_)
        · refine V_aload_0 hx dX11_order_46 ?_
          refine V_iload_1 hx dX11_order_47 ?_
          refine V_iload_2 hx dX11_order_48 ?_
          refine V_iload_3 hx dX11_order_49 ?_
          refine V_iload_4 hx dX11_order_50 ?_
          refine V_v4Q hx el ed (c_X11_wrong hN hF (by omega) (by omega) (by omega) (by omega)) myX11_wrong mlX11_146 dX11_order_52 ⟨_, rfl, rfl⟩ (k49 hN) (by decide) (by omega) rfl (by first | exact Nat.le_of_ble_eq_true rfl | (simp only [List.map_cons, List.map_nil, List.sum_cons, List.sum_nil, vR_cat, cat_I, cat_L]; decide)) (fun r52 => ?_)
          refine V_istore_6 hx (by first | exact nc_I | exact nc_R | exact nc_n) dX11_order_55 ?_
          refine V_iconst hx dX11_order_57 ?_
          refine V_istore_7 hx (by first | exact nc_I | exact nc_R | exact nc_n) dX11_order_58 ?_
          have hv := pk_v I s lane i0 n 1
          have hwr := wrF_1 (I := I) (s := s) (lane := lane) (i := i0) (n := n)
          have hq := hs0 s (by omega) (by omega)
          by_cases hw1 : wrF I s lane i0 n = 1
          · rw [hw1]
            refine loop_inv (α := Mm) 0 n (by omega) (fun i M => Fx M ∧ (∀ a q : Int, a ≠ 61 → M a q = I a q) ∧ ∀ q : Int, 0 ≤ q → q < i → M 61 q = itm I s i0 q ∧ (0 ≤ itm I s i0 q ∧ itm I s i0 q < I 49 6) ∧ I 55 (13 * itm I s i0 q + 9) = 0) (fun i M => V x z _ N M 0 0 60 [some (vR z 49), some (vI s), some (vI lane), some (vI i0), some (vI n), some (vI k), some (vI 1), some (vI i), none, none] []) ?_ ?_ I ⟨hF, fun _ _ _ => rfl, fun q a b => by omega⟩
            · rintro M ⟨hF, hM, hJ⟩
              refine V_iload_7 hx dX11_order_60 ?_
              refine V_iload_4 hx dX11_order_62 ?_
              refine V_icmp_ge (tgt := 133) hx dX11_order_64 (by decide) (by omega) (by omega) (fun h64 => ?_) (fun h64 => ?_)
              · refine V_iload_6 hx dX11_order_133 ?_
                refine V_iconst hx dX11_order_135 ?_
                refine V_icmp_eq (tgt := 142) hx dX11_order_136 (by decide) (by omega) (by omega) (fun _ => ?_) (fun h => absurd h (by decide))
                have hI : ∀ q : Int, 0 ≤ q → q < n → M 61 q = itm I s i0 q := fun q a b => (hJ q a b).1
                have hdc := dup_cong hI
                refine V_aload_0 hx dX11_order_142 ?_
                refine V_iload_4 hx dX11_order_143 ?_
                refine V_v1P hx el ed (c_X11_isTwice hN hF (by omega)) myX11_isTwice mlX11_240 dX11_order_145 ⟨_, rfl, rfl⟩ (k49 hN) (by decide) (by omega) rfl (by first | exact Nat.le_of_ble_eq_true rfl | (simp only [List.map_cons, List.map_nil, List.sum_cons, List.sum_nil, vR_cat, cat_I, cat_L]; decide)) ?_
                refine V_ifB_eq (tgt := 154) hx dX11_order_148 (by decide) (fun h148 => ?_) (fun h148 => ?_)
                · refine V_iconst hx dX11_order_154 ?_
                  refine V_istore_7 hx (by first | exact nc_I | exact nc_R | exact nc_n) dX11_order_155 ?_
                  have hnd : ¬ dup (itm I s i0) n := fun q => absurd (hdc.mpr q) (by assumption)
                  have hokp : okPk I s i0 n 1 := ⟨fun q a b => ⟨(hJ q a b).2.1, fun _ => (hJ q a b).2.2⟩, hnd⟩
                  have hpk : pkF I s lane i0 n 1 = 0 := by
                    rcases hv with ⟨v1, v2⟩ | ⟨v1, v2, v3, v4⟩ | ⟨v1, v2, v3, v4⟩ | ⟨v1, v2, v3, v4⟩
                    · exfalso; omega
                    · exact v4
                    · exact absurd hokp v3
                    · exact absurd hw1 v2
                  obtain ⟨hg1, hg2, hTb⟩ := hE (by omega) hpk
                  have hdi : ∀ p q : Int, 0 ≤ p → p < q → q < n → M 61 p ≠ M 61 q := fun p q a b c e => hnd ⟨p, q, a, b, c, by rw [← hI p a (by omega), ← hI q (by omega) c]; exact e⟩
                  obtain ⟨G, eG⟩ : ∃ G : Int → Int, G = M 61 := ⟨_, rfl⟩
                  rw [← eG] at hdi hI
                  refine loop_inv (α := Mm) 1 (max 1 n) (by omega) (fun i M3 => Fx M3 ∧ (∀ a q : Int, a ≠ 61 → M3 a q = I a q) ∧ sOut (fun a => a) G n i (M3 61)) (fun i M3 => V x z _ N M3 0 0 157 [some (vR z 49), some (vI s), some (vI lane), some (vI i0), some (vI n), some (vI k), some (vI 1), some (vI i), none, none] []) ?_ ?_ M ⟨hF, hM, by rw [← eG]; exact sOut_1 _ _ _⟩
                  · rintro M3 ⟨hF, hM3, hS⟩
                    rw [show max 1 n = n by omega] at hS
                    refine V_iload_7 hx dX11_order_157 ?_
                    refine V_iload_4 hx dX11_order_159 ?_
                    refine V_icmp_ge (tgt := 240) hx dX11_order_161 (by decide) (by omega) (by omega) (fun h161 => ?_) (fun h161 => ?_)
                    · have hge : ∀ q : Int, 0 ≤ q → q < n → M3 61 q = g q := rise_eq hS.1 hg1 (fun v => by
                          rw [hS.2.2 v, hg2 v]
                          constructor
                          · rintro ⟨q, a, b, c⟩
                            exact ⟨q, a, b, by rw [← hI q a b]; exact c⟩
                          · rintro ⟨q, a, b, c⟩
                            exact ⟨q, a, b, by rw [hI q a b]; exact c⟩)
                      have hU61 : ∀ q : Int, 0 ≤ q → q < n → M3 61 q = (upR I 61 g) 61 q := fun q a b => by rw [hge q a b]; unfold upR; rw [if_pos rfl]
                      have hU : ∀ a q : Int, a ≠ 61 → M3 a q = (upR I 61 g) a q := fun a q h => by rw [upR_q h]; exact hM3 a q h
                      have hTM : TbM M3 E n := TbM_c (fun q => hU 55 q (by decide)) (hU 49 7 (by decide)) hU61 hTb
                      have e49 := hM3 49 6 (by decide)
                      have hgr : ∀ q : Int, 0 ≤ q → q < n → 0 ≤ M3 61 q ∧ M3 61 q < M3 49 6 := fun q a b => by
                        obtain ⟨v, v0, v1, v2⟩ := (hg2 (g q)).mp ⟨q, a, b, rfl⟩
                        rw [hge q a b, e49, ← v2]; exact (hJ v v0 v1).2.1
                      have hWM : ∀ w : Int, 0 ≤ w → w < M3 49 6 → (0 ≤ M3 55 (13 * w + 1) ∧ M3 55 (13 * w + 1) ≤ 99) ∧ (0 ≤ M3 55 (13 * w + 3) ∧ M3 55 (13 * w + 3) ≤ 150000) := fun w a b => by
                        rw [hM3 55 _ (by decide), hM3 55 _ (by decide)]; exact hW w a (by omega)
                      refine V_aload_0 hx dX11_order_240 ?_
                      refine V_iload_4 hx dX11_order_241 ?_
                      refine V_v1I hx el ed (c_X11_leastOf (E := E) hN hF (by omega) (by omega) (by rw [hM3 49 7 (by decide)]; exact h7) hgr hWM hTM) myX11_leastOf mlX11_260 dX11_order_243 ⟨_, rfl, rfl⟩ (k49 hN) (by decide) (by omega) rfl (by first | exact Nat.le_of_ble_eq_true rfl | (simp only [List.map_cons, List.map_nil, List.sum_cons, List.sum_nil, vR_cat, cat_I, cat_L]; decide)) (fun rv N4 M4 ⟨eN, hF, hM4, erv, hbst⟩ => ?_)
                      subst eN
                      have hrb := hTb.2.2 0 (by omega) (by have := pw_b (i := n) (by omega); omega)
                      refine V_istore_7 hx (by first | exact nc_I | exact nc_R | exact nc_n) dX11_order_246 ?_
                      refine V_iload_5 hx dX11_order_248 ?_
                      refine V_iconst hx dX11_order_250 ?_
                      refine V_icmp_ne (tgt := 259) hx dX11_order_251 (by decide) (by omega) (by omega) (fun h251 => ?_) (fun h251 => ?_)
                      · refine V_aload_0 hx dX11_order_259 ?_
                        refine V_getRe hx flX11_58 dX11_order_260 rfl (k49 hN) (hF.1 49 25 66 rfl) ?_
                        refine V_iload_5 hx dX11_order_263 ?_
                        refine V_ialoadx hx hF dX11_order_265 (k66 hN) (by decide) (by omega) (fun r265 => ?_)
                        refine V_ireturn hx dX11_order_266 (by omega) (by omega) ?_
                        have hfr : ∀ a q : Int, a ≠ 61 → a ≠ 65 → a ≠ 66 → M4 a q = I a q := fun a q h1 h2 h3 => by rw [hM4 a q h2 h3]; exact hM3 a q h1
                        refine ⟨_, rfl, rfl, hF, hfr, fun h => absurd (by omega) h, fun _ h => by omega, fun _ _ => ?_⟩
                        first
                          | (rw [cif_t (by omega)]; exact erv)
                          | (rw [cif_f (by omega), hbst k (by omega) (by omega), gnM_c (fun q => hU 55 q (by decide)) (hU 49 7 (by decide)) hU61, bbM_c (fun q => hU 55 q (by decide)) (hU 49 7 (by decide)) hU61]
                             have hbr := bbM_lt hTb (by omega) k.toNat (by omega)
                             exact hge _ hbr.1 hbr.2)
                      · refine V_iload_7 hx dX11_order_254 ?_
                        refine V_goto (tgt := 266) hx dX11_order_256 (by decide) ?_
                        refine V_ireturn hx dX11_order_266 (by omega) (by omega) ?_
                        have hfr : ∀ a q : Int, a ≠ 61 → a ≠ 65 → a ≠ 66 → M4 a q = I a q := fun a q h1 h2 h3 => by rw [hM4 a q h2 h3]; exact hM3 a q h1
                        refine ⟨_, rfl, rfl, hF, hfr, fun h => absurd (by omega) h, fun _ h => by omega, fun _ _ => ?_⟩
                        first
                          | (rw [cif_t (by omega)]; exact erv)
                          | (rw [cif_f (by omega), hbst k (by omega) (by omega), gnM_c (fun q => hU 55 q (by decide)) (hU 49 7 (by decide)) hU61, bbM_c (fun q => hU 55 q (by decide)) (hU 49 7 (by decide)) hU61]
                             have hbr := bbM_lt hTb (by omega) k.toNat (by omega)
                             exact hge _ hbr.1 hbr.2)
                    · exfalso; omega
                  · rintro i M3 hi0 hi1 ⟨hF, hM3, hS⟩ ih
                    refine V_iload_7 hx dX11_order_157 ?_
                    refine V_iload_4 hx dX11_order_159 ?_
                    refine V_icmp_ge (tgt := 240) hx dX11_order_161 (by decide) (by omega) (by omega) (fun h161 => ?_) (fun h161 => ?_)
                    · exfalso; omega
                    · refine V_iload_7 hx dX11_order_164 ?_
                      refine V_istore_8 hx (by first | exact nc_I | exact nc_R | exact nc_n) dX11_order_166 ?_
                      have INS : ∀ (c : Nat) (b : Int) (M4 : Mm) (R : Int → Int), b = c → b ≤ i → Fx M4 → (∀ a q : Int, a ≠ 61 → M4 a q = I a q) → sIn (fun a => a) G n i b (G i) R → M4 61 = upF R b (G i) → V x z (pI (fun r N' I' => N' = N ∧ Fx I' ∧ (∀ a q : Int, a ≠ 61 → a ≠ 65 → a ≠ 66 → I' a q = I a q) ∧ (¬ ((0 ≤ s ∧ s ≤ 3) ∧ (0 ≤ lane ∧ lane ≤ 2) ∧ (1 ≤ n ∧ n ≤ 6) ∧ (-1 ≤ k ∧ k ≤ n - 1)) → r = -1) ∧ (((0 ≤ s ∧ s ≤ 3) ∧ (0 ≤ lane ∧ lane ≤ 2) ∧ (1 ≤ n ∧ n ≤ 6) ∧ (-1 ≤ k ∧ k ≤ n - 1)) → pkF I s lane i0 n 1 ≠ 0 → r = pkF I s lane i0 n 1) ∧ (((0 ≤ s ∧ s ≤ 3) ∧ (0 ≤ lane ∧ lane ≤ 2) ∧ (1 ≤ n ∧ n ≤ 6) ∧ (-1 ≤ k ∧ k ≤ n - 1)) → pkF I s lane i0 n 1 = 0 → r = cif (k = -1) (E 0) (g (bbM (upR I 61 g) E n (gnM (upR I 61 g) E n 0 k.toNat)))))) N M4 0 0 168 [some (vR z 49), some (vI s), some (vI lane), some (vI i0), some (vI n), some (vI k), some (vI 1), some (vI i), some (vI b), none] [] := by
                        intro c
                        induction c with
                        | zero =>
                          intro b M4 R hb hbi hF hM4 hI4 h61
                          refine V_iload_8 hx dX11_order_168 ?_
                          refine V_if_le (tgt := 234) hx dX11_order_170 (by decide) (by omega) (fun h170 => ?_) (fun h170 => ?_)
                          · refine V_iinc_7 hx (by first | exact nc_I | exact nc_R | exact nc_n) dX11_order_234 ?_
                            refine V_goto (tgt := 157) hx dX11_order_237 (by decide) ?_
                            refine V_drop_8 ?_
                            refine V_drop_9 ?_
                            refine ih _ ⟨hF, hM4, ?_⟩
                            rw [h61]
                            exact sIn_e hI4 (by omega) rfl (fun p p0 p1 => hdi p i p0 p1 (by omega)) (Or.inl (by omega))
                          · exfalso; omega
                        | succ c jh =>
                          intro b M4 R hb hbi hF hM4 hI4 h61
                          have e1 : M4 61 (b - 1) = R (b - 1) := by rw [h61, upF_n (by omega)]
                          have e2 : M4 61 b = G i := by rw [h61, upF_s]
                          refine V_iload_8 hx dX11_order_168 ?_
                          refine V_if_le (tgt := 234) hx dX11_order_170 (by decide) (by omega) (fun h170 => ?_) (fun h170 => ?_)
                          · refine V_iinc_7 hx (by first | exact nc_I | exact nc_R | exact nc_n) dX11_order_234 ?_
                            refine V_goto (tgt := 157) hx dX11_order_237 (by decide) ?_
                            refine V_drop_8 ?_
                            refine V_drop_9 ?_
                            refine ih _ ⟨hF, hM4, ?_⟩
                            rw [h61]
                            exact sIn_e hI4 (by omega) rfl (fun p p0 p1 => hdi p i p0 p1 (by omega)) (Or.inr (by show R (b - 1) ≤ G i; omega))
                          · refine V_aload_0 hx dX11_order_173 ?_
                            refine V_getRe hx flX11_43 dX11_order_174 rfl (k49 hN) (hF.1 49 18 61 rfl) ?_
                            refine V_iload_8 hx dX11_order_177 ?_
                            refine V_iconst hx dX11_order_179 ?_
                            refine V_isub hx dX11_order_180 ?_
                            refine V_ialoadx hx hF dX11_order_181 (k61 hN) (by decide) (by omega) (fun r181 => ?_)
                            rw [e1]
                            rw [e1] at r181
                            refine V_aload_0 hx dX11_order_182 ?_
                            refine V_getRe hx flX11_43 dX11_order_183 rfl (k49 hN) (hF.1 49 18 61 rfl) ?_
                            refine V_iload_8 hx dX11_order_186 ?_
                            refine V_ialoadx hx hF dX11_order_188 (k61 hN) (by decide) (by omega) (fun r188 => ?_)
                            rw [e2]
                            rw [e2] at r188
                            refine V_icmp_le (tgt := 234) hx dX11_order_189 (by decide) (by omega) (by omega) (fun h189 => ?_) (fun h189 => ?_)
                            · refine V_iinc_7 hx (by first | exact nc_I | exact nc_R | exact nc_n) dX11_order_234 ?_
                              refine V_goto (tgt := 157) hx dX11_order_237 (by decide) ?_
                              refine V_drop_8 ?_
                              refine V_drop_9 ?_
                              refine ih _ ⟨hF, hM4, ?_⟩
                              rw [h61]
                              exact sIn_e hI4 (by omega) rfl (fun p p0 p1 => hdi p i p0 p1 (by omega)) (Or.inr (by show R (b - 1) ≤ G i; omega))
                            · refine V_aload_0 hx dX11_order_192 ?_
                              refine V_getRe hx flX11_43 dX11_order_193 rfl (k49 hN) (hF.1 49 18 61 rfl) ?_
                              refine V_iload_8 hx dX11_order_196 ?_
                              refine V_ialoadx hx hF dX11_order_198 (k61 hN) (by decide) (by omega) (fun r198 => ?_)
                              rw [e2]
                              rw [e2] at r198
                              refine V_istore_9 hx (by first | exact nc_I | exact nc_R | exact nc_n) dX11_order_199 ?_
                              refine V_aload_0 hx dX11_order_201 ?_
                              refine V_getRe hx flX11_43 dX11_order_202 rfl (k49 hN) (hF.1 49 18 61 rfl) ?_
                              refine V_iload_8 hx dX11_order_205 ?_
                              refine V_aload_0 hx dX11_order_207 ?_
                              refine V_getRe hx flX11_43 dX11_order_208 rfl (k49 hN) (hF.1 49 18 61 rfl) ?_
                              refine V_iload_8 hx dX11_order_211 ?_
                              refine V_iconst hx dX11_order_213 ?_
                              refine V_isub hx dX11_order_214 ?_
                              refine V_ialoadx hx hF dX11_order_215 (k61 hN) (by decide) (by omega) (fun r215 => ?_)
                              rw [e1]
                              rw [e1] at r215
                              refine V_iastorex hx hF dX11_order_216 (k61 hN) (by decide) (by omega) (fx_none rfl _) (by omega) (Or.inl (by decide)) (fun hF => ?_)
                              refine V_aload_0 hx dX11_order_217 ?_
                              refine V_getRe hx flX11_43 dX11_order_218 rfl (k49 hN) (hF.1 49 18 61 rfl) ?_
                              refine V_iload_8 hx dX11_order_221 ?_
                              refine V_iconst hx dX11_order_223 ?_
                              refine V_isub hx dX11_order_224 ?_
                              refine V_iload_9 hx dX11_order_225 ?_
                              refine V_iastorex hx hF dX11_order_227 (k61 hN) (by decide) (by omega) (fx_none rfl _) (by omega) (Or.inl (by decide)) (fun hF => ?_)
                              refine V_iinc_8 hx (by first | exact nc_I | exact nc_R | exact nc_n) dX11_order_228 ?_
                              refine V_goto (tgt := 168) hx dX11_order_231 (by decide) ?_
                              refine V_drop_9 ?_
                              have em : ∀ X : Mm, X = up (up M4 61 b (R (b - 1))) 61 (b - 1) (G i) → X 61 = upF (upF R b (R (b - 1))) (b - 1) (G i) := by
                                intro X eX
                                rw [eX]
                                funext q
                                by_cases q1 : q = b - 1
                                · rw [q1, up_s, upF_s]
                                · rw [up_k q1, upF_n q1]
                                  by_cases q2 : q = b
                                  · rw [q2, up_s, upF_s]
                                  · rw [up_k q2, upF_n q2, h61, upF_n q2]
                              rw [show b + -1 = b - 1 by omega]
                              exact jh (b - 1) _ (upF R b (R (b - 1))) (by omega) (by omega) hF (fun a q h => by rw [up_c h, up_c h]; exact hM4 a q h) (sIn_s hI4 (by omega) (by show G i < R (b - 1); omega)) (em _ rfl)
                      exact INS i.toNat i M3 (M3 61) (by omega) (by omega) hF hM3 (sIn_0 _ hS) (by funext q; by_cases hq : q = i; (rw [hq, upF_s]; exact hS.2.1 i (by omega) (by omega)); (rw [upF_n hq]))
                · refine V_bipush hx dX11_order_151 (by decide) ?_
                  refine V_ireturn hx dX11_order_153 (by omega) (by omega) ?_
                  have hno : ¬ okPk I s i0 n 1 := fun q => q.2 (hdc.mp (by assumption))
                  rcases hv with ⟨v1, v2⟩ | ⟨v1, v2, v3, v4⟩ | ⟨v1, v2, v3, v4⟩ | ⟨v1, v2, v3, v4⟩
                  · exfalso; omega
                  · exact absurd v3 hno
                  · exact ⟨_, rfl, rfl, hF, fun a q h1 h2 h3 => hM a q h1, fun h => absurd (by omega) h, fun _ _ => by omega, fun _ h => by omega⟩
                  · exact absurd hw1 v2
              · exfalso; omega
            · rintro i M hi0 hi1 ⟨hF, hM, hJ⟩ ih
              have e60 : M 60 (24 * s + (i0 + i)) = itm I s i0 i := hM 60 _ (by decide)
              have hit := hF.2.1 60 (24 * s + (i0 + i))
              rw [e60] at hit
              refine V_iload_7 hx dX11_order_60 ?_
              refine V_iload_4 hx dX11_order_62 ?_
              refine V_icmp_ge (tgt := 133) hx dX11_order_64 (by decide) (by omega) (by omega) (fun h64 => ?_) (fun h64 => ?_)
              · exfalso; omega
              · refine V_iload_6 hx dX11_order_67 ?_
                refine V_iconst hx dX11_order_69 ?_
                refine V_icmp_ne (tgt := 133) hx dX11_order_70 (by decide) (by omega) (by omega) (fun h => absurd h (by decide)) (fun _ => ?_)
                refine V_aload_0 hx dX11_order_73 ?_
                refine V_getRe hx flX11_43 dX11_order_74 rfl (k49 hN) (hF.1 49 18 61 rfl) ?_
                refine V_iload_7 hx dX11_order_77 ?_
                refine V_aload_0 hx dX11_order_79 ?_
                refine V_iload_1 hx dX11_order_80 ?_
                refine V_iload_3 hx dX11_order_81 ?_
                refine V_iload_7 hx dX11_order_82 ?_
                refine V_iadd hx dX11_order_84 ?_
                refine V_v2Q hx el ed (c_X11_itemOf hN hF (by omega)) myX11_itemOf mlX11_150 dX11_order_85 ⟨_, rfl, rfl⟩ (k49 hN) (by decide) (by omega) rfl (by first | exact Nat.le_of_ble_eq_true rfl | (simp only [List.map_cons, List.map_nil, List.sum_cons, List.sum_nil, vR_cat, cat_I, cat_L]; decide)) (fun r85 => ?_)
                rw [e60]
                refine V_iastorex hx hF dX11_order_88 (k61 hN) (by decide) (by omega) (fx_none rfl _) (by omega) (Or.inl (by decide)) (fun hF => ?_)
                obtain ⟨M2, e2⟩ : ∃ J : Mm, J = up M 61 i (itm I s i0 i) := ⟨_, rfl⟩
                refine V_mem M2 e2.symm ?_
                rw [← e2] at hF
                have hM2 : ∀ a q : Int, a ≠ 61 → M2 a q = I a q := fun a q h => by rw [e2, up_c h]; exact hM a q h
                have h61 : M2 61 i = itm I s i0 i := by rw [e2, up_s]
                have e49 := hM2 49 6 (by decide)
                refine V_aload_0 hx dX11_order_89 ?_
                refine V_aload_0 hx dX11_order_90 ?_
                refine V_getRe hx flX11_43 dX11_order_91 rfl (k49 hN) (hF.1 49 18 61 rfl) ?_
                refine V_iload_7 hx dX11_order_94 ?_
                refine V_ialoadx hx hF dX11_order_96 (k61 hN) (by decide) (by omega) (fun r96 => ?_)
                rw [h61]
                refine V_v1P hx el ed (c_X11_isWord hN hF (by omega) (by omega)) myX11_isWord mlX11_189 dX11_order_97 ⟨_, rfl, rfl⟩ (k49 hN) (by decide) (by omega) rfl (by first | exact Nat.le_of_ble_eq_true rfl | (simp only [List.map_cons, List.map_nil, List.sum_cons, List.sum_nil, vR_cat, cat_I, cat_L]; decide)) ?_
                refine V_ifB_eq (tgt := 123) hx dX11_order_100 (by decide) (fun h100 => ?_) (fun h100 => ?_)
                · refine V_bipush hx dX11_order_123 (by decide) ?_
                  refine V_istore_6 hx (by first | exact nc_I | exact nc_R | exact nc_n) dX11_order_125 ?_
                  refine V_iinc_7 hx (by first | exact nc_I | exact nc_R | exact nc_n) dX11_order_127 ?_
                  refine V_goto (tgt := 60) hx dX11_order_130 (by decide) ?_
                  refine V_iload_7 hx dX11_order_60 ?_
                  refine V_iload_4 hx dX11_order_62 ?_
                  refine V_icmp_ge (tgt := 133) hx dX11_order_64 (by decide) (by omega) (by omega) (fun h64 => ?_) (fun h64 => ?_)
                  · refine V_iload_6 hx dX11_order_133 ?_
                    refine V_iconst hx dX11_order_135 ?_
                    refine V_icmp_eq (tgt := 142) hx dX11_order_136 (by decide) (by omega) (by omega) (fun h => absurd h (by decide)) (fun _ => ?_)
                    refine V_iload_6 hx dX11_order_139 ?_
                    refine V_ireturn hx dX11_order_141 (by omega) (by omega) ?_
                    have hno : ¬ okPk I s i0 n 1 := by
                      rintro ⟨q1, -⟩
                      have q2 := q1 i hi0 hi1
                      have q3 := q2.2 (by omega)
                      omega
                    rcases hv with ⟨v1, v2⟩ | ⟨v1, v2, v3, v4⟩ | ⟨v1, v2, v3, v4⟩ | ⟨v1, v2, v3, v4⟩
                    · exfalso; omega
                    · exact absurd v3 hno
                    · exact ⟨_, rfl, rfl, hF, fun a q h1 h2 h3 => hM2 a q h1, fun h => absurd (by omega) h, fun _ _ => by omega, fun _ h => by omega⟩
                    · exact absurd hw1 v2
                  · refine V_iload_6 hx dX11_order_67 ?_
                    refine V_iconst hx dX11_order_69 ?_
                    refine V_icmp_ne (tgt := 133) hx dX11_order_70 (by decide) (by omega) (by omega) (fun _ => ?_) (fun h => absurd h (by decide))
                    refine V_iload_6 hx dX11_order_133 ?_
                    refine V_iconst hx dX11_order_135 ?_
                    refine V_icmp_eq (tgt := 142) hx dX11_order_136 (by decide) (by omega) (by omega) (fun h => absurd h (by decide)) (fun _ => ?_)
                    refine V_iload_6 hx dX11_order_139 ?_
                    refine V_ireturn hx dX11_order_141 (by omega) (by omega) ?_
                    have hno : ¬ okPk I s i0 n 1 := by
                      rintro ⟨q1, -⟩
                      have q2 := q1 i hi0 hi1
                      have q3 := q2.2 (by omega)
                      omega
                    rcases hv with ⟨v1, v2⟩ | ⟨v1, v2, v3, v4⟩ | ⟨v1, v2, v3, v4⟩ | ⟨v1, v2, v3, v4⟩
                    · exfalso; omega
                    · exact absurd v3 hno
                    · exact ⟨_, rfl, rfl, hF, fun a q h1 h2 h3 => hM2 a q h1, fun h => absurd (by omega) h, fun _ _ => by omega, fun _ h => by omega⟩
                    · exact absurd hw1 v2
                · refine V_aload_0 hx dX11_order_103 ?_
                  refine V_aload_0 hx dX11_order_104 ?_
                  refine V_getRe hx flX11_43 dX11_order_105 rfl (k49 hN) (hF.1 49 18 61 rfl) ?_
                  refine V_iload_7 hx dX11_order_108 ?_
                  refine V_ialoadx hx hF dX11_order_110 (k61 hN) (by decide) (by omega) (fun r110 => ?_)
                  refine V_bipush hx dX11_order_111 (by decide) ?_
                  rw [h61]
                  refine V_v2Q hx el ed (c_X11_of hN hF (by omega)) myX11_of mlX11_99 dX11_order_113 ⟨_, rfl, rfl⟩ (k49 hN) (by decide) (by omega) rfl (by first | exact Nat.le_of_ble_eq_true rfl | (simp only [List.map_cons, List.map_nil, List.sum_cons, List.sum_nil, vR_cat, cat_I, cat_L]; decide)) (fun r113 => ?_)
                  rw [hM2 55 _ (by decide)]
                  rw [hM2 55 _ (by decide)] at r113
                  refine V_if_ne (tgt := 123) hx dX11_order_116 (by decide) (by omega) (fun h116 => ?_) (fun h116 => ?_)
                  · refine V_bipush hx dX11_order_123 (by decide) ?_
                    refine V_istore_6 hx (by first | exact nc_I | exact nc_R | exact nc_n) dX11_order_125 ?_
                    refine V_iinc_7 hx (by first | exact nc_I | exact nc_R | exact nc_n) dX11_order_127 ?_
                    refine V_goto (tgt := 60) hx dX11_order_130 (by decide) ?_
                    refine V_iload_7 hx dX11_order_60 ?_
                    refine V_iload_4 hx dX11_order_62 ?_
                    refine V_icmp_ge (tgt := 133) hx dX11_order_64 (by decide) (by omega) (by omega) (fun h64 => ?_) (fun h64 => ?_)
                    · refine V_iload_6 hx dX11_order_133 ?_
                      refine V_iconst hx dX11_order_135 ?_
                      refine V_icmp_eq (tgt := 142) hx dX11_order_136 (by decide) (by omega) (by omega) (fun h => absurd h (by decide)) (fun _ => ?_)
                      refine V_iload_6 hx dX11_order_139 ?_
                      refine V_ireturn hx dX11_order_141 (by omega) (by omega) ?_
                      have hno : ¬ okPk I s i0 n 1 := by
                        rintro ⟨q1, -⟩
                        have q2 := q1 i hi0 hi1
                        have q3 := q2.2 (by omega)
                        omega
                      rcases hv with ⟨v1, v2⟩ | ⟨v1, v2, v3, v4⟩ | ⟨v1, v2, v3, v4⟩ | ⟨v1, v2, v3, v4⟩
                      · exfalso; omega
                      · exact absurd v3 hno
                      · exact ⟨_, rfl, rfl, hF, fun a q h1 h2 h3 => hM2 a q h1, fun h => absurd (by omega) h, fun _ _ => by omega, fun _ h => by omega⟩
                      · exact absurd hw1 v2
                    · refine V_iload_6 hx dX11_order_67 ?_
                      refine V_iconst hx dX11_order_69 ?_
                      refine V_icmp_ne (tgt := 133) hx dX11_order_70 (by decide) (by omega) (by omega) (fun _ => ?_) (fun h => absurd h (by decide))
                      refine V_iload_6 hx dX11_order_133 ?_
                      refine V_iconst hx dX11_order_135 ?_
                      refine V_icmp_eq (tgt := 142) hx dX11_order_136 (by decide) (by omega) (by omega) (fun h => absurd h (by decide)) (fun _ => ?_)
                      refine V_iload_6 hx dX11_order_139 ?_
                      refine V_ireturn hx dX11_order_141 (by omega) (by omega) ?_
                      have hno : ¬ okPk I s i0 n 1 := by
                        rintro ⟨q1, -⟩
                        have q2 := q1 i hi0 hi1
                        have q3 := q2.2 (by omega)
                        omega
                      rcases hv with ⟨v1, v2⟩ | ⟨v1, v2, v3, v4⟩ | ⟨v1, v2, v3, v4⟩ | ⟨v1, v2, v3, v4⟩
                      · exfalso; omega
                      · exact absurd v3 hno
                      · exact ⟨_, rfl, rfl, hF, fun a q h1 h2 h3 => hM2 a q h1, fun h => absurd (by omega) h, fun _ _ => by omega, fun _ h => by omega⟩
                      · exact absurd hw1 v2
                  · refine V_iconst hx dX11_order_119 ?_
                    refine V_goto (tgt := 125) hx dX11_order_120 (by decide) ?_
                    refine V_istore_6 hx (by first | exact nc_I | exact nc_R | exact nc_n) dX11_order_125 ?_
                    refine V_iinc_7 hx (by first | exact nc_I | exact nc_R | exact nc_n) dX11_order_127 ?_
                    refine V_goto (tgt := 60) hx dX11_order_130 (by decide) ?_
                    refine ih _ ⟨hF, hM2, fun q a b => ?_⟩
                    by_cases hq : q = i
                    · rw [hq]; exact ⟨h61, by omega, by omega⟩
                    · rw [e2, up_k hq]; exact hJ q a (by omega)
          · refine V_iload_7 hx dX11_order_60 ?_
            refine V_iload_4 hx dX11_order_62 ?_
            refine V_icmp_ge (tgt := 133) hx dX11_order_64 (by decide) (by omega) (by omega) (fun h64 => ?_) (fun h64 => ?_)
            · refine V_iload_6 hx dX11_order_133 ?_
              refine V_iconst hx dX11_order_135 ?_
              refine V_icmp_eq (tgt := 142) hx dX11_order_136 (by decide) (by omega) (by omega) (fun h136 => ?_) (fun h136 => ?_)
              · exfalso; omega
              · refine V_iload_6 hx dX11_order_139 ?_
                refine V_ireturn hx dX11_order_141 (by omega) (by omega) ?_
                rcases hv with ⟨v1, v2⟩ | ⟨v1, v2, v3, v4⟩ | ⟨v1, v2, v3, v4⟩ | ⟨v1, v2, v3, v4⟩
                · exfalso; omega
                · exact absurd v2 hw1
                · exact absurd v2 hw1
                · exact ⟨_, rfl, rfl, hF, fun _ _ _ _ _ => rfl, fun h => absurd (by omega) h, fun _ _ => by omega, fun _ h => by omega⟩
            · refine V_iload_6 hx dX11_order_67 ?_
              refine V_iconst hx dX11_order_69 ?_
              refine V_icmp_ne (tgt := 133) hx dX11_order_70 (by decide) (by omega) (by omega) (fun h70 => ?_) (fun h70 => ?_)
              · refine V_iload_6 hx dX11_order_133 ?_
                refine V_iconst hx dX11_order_135 ?_
                refine V_icmp_eq (tgt := 142) hx dX11_order_136 (by decide) (by omega) (by omega) (fun h136 => ?_) (fun h136 => ?_)
                · exfalso; omega
                · refine V_iload_6 hx dX11_order_139 ?_
                  refine V_ireturn hx dX11_order_141 (by omega) (by omega) ?_
                  rcases hv with ⟨v1, v2⟩ | ⟨v1, v2, v3, v4⟩ | ⟨v1, v2, v3, v4⟩ | ⟨v1, v2, v3, v4⟩
                  · exfalso; omega
                  · exact absurd v2 hw1
                  · exact absurd v2 hw1
                  · exact ⟨_, rfl, rfl, hF, fun _ _ _ _ _ => rfl, fun h => absurd (by omega) h, fun _ _ => by omega, fun _ h => by omega⟩
              · exfalso; omega
        · refine V_iconst hx dX11_order_44 ?_
          refine V_ireturn hx dX11_order_45 (by omega) (by omega) ?_
          exact ⟨_, rfl, rfl, hF, fun _ _ _ _ _ => rfl, fun _ => rfl, fun h => absurd h (by omega), fun h => absurd h (by omega)⟩

