/-! ===== the clock jumps: class beside reference ===== -/
theorem no_open {K : Mm} {N b w : Int} (h : Ivx b K N) (hk : mkN K = -4) (w0 : 0 ≤ w) (w1 : w < K 49 6) (hw : K 55 (13 * w + 9) = 0) : K 49 7 < K 55 (13 * w + 7) := by
  refine Classical.byContradiction fun c => ?_
  have ho : hasO K (K 55 (13 * w + 8)) := ⟨w, w0, w1, ⟨hw, by omega⟩, rfl⟩
  have hpos : 0 < cntW (fun u => K 55 (13 * u + 12) = 1 ∧ K 55 (13 * u + 8) = K 55 (13 * w + 8)) (K 49 6).toNat := by
    rw [h.hc (K 55 (13 * w + 8))]
    exact cntW_pos.mpr ⟨w, w0, by omega, hw, rfl⟩
  obtain ⟨u, u0, u1, u2, u3⟩ := cntW_pos.mp hpos
  exact bst_some (p := fun w => K 55 (13 * w + 12) = 1 ∧ hasO K (K 55 (13 * w + 8))) (lt := fun w b => rk K w 1 < rk K b 1) (n := (K 49 6).toNat) ⟨u, u0, u1, u2, by rw [u3]; exact ho⟩ hk
theorem gTick_i {X : Mm} (h : X 49 9 = -4 → mkN X = -4) : gTick X = gTail X := by
  unfold gTick
  rw [cif_f (fun c => c.2 (h c.1))]
theorem gTicks_s (X : Mm) (n : Nat) : gTicksN X (n + 1) = gTick (gTicksN X n) := rfl
theorem gTicks_f (X : Mm) : ∀ n : Nat, gTicksN X (n + 1) = gTicksN (gTick X) n
  | 0 => rfl
  | n + 1 => by rw [gTicks_s, gTicks_f X n, gTicks_s]
theorem tick_i {X : Mm} {t : Int} (hg : X 49 9 = -4 → ∀ w : Int, 0 ≤ w → w < X 49 6 → X 55 (13 * w + 9) = 0 → t < X 55 (13 * w + 7)) : gTick (up X 49 7 t) = cif (X 49 9 ≠ -4 ∧ X 55 (13 * X 49 9 + 10) + X 55 (13 * X 49 9 + 1) = t + 1) (gLeave (up X 49 7 (t + 1))) (up X 49 7 (t + 1)) := by
  have e9 : up X 49 7 t 49 9 = X 49 9 := up_k (by decide)
  have e7 : up X 49 7 t 49 7 = t := up_s _ _ _ _
  rw [gTick_i (fun c => ?_)]
  · unfold gTail
    rw [e7, up_uu, up_k (a := 49) (k := 7) (k' := 9) (by decide), up_c (a := 49) (a' := 55) (by decide), up_c (a := 49) (a' := 55) (by decide), up_s]
  · refine Classical.byContradiction fun d => ?_
    obtain ⟨-, -, w, w0, w1, w2, -⟩ := mkN_v d
    rw [e9] at c
    have w3 := w2.1
    have w4 := w2.2
    rw [up_k (by decide)] at w1
    rw [up_c (by decide)] at w3 w4
    rw [e7] at w4
    have := hg c w w0 w1 w3
    omega
theorem idle_t {X : Mm} : ∀ e : Nat, (X 49 9 = -4 → ∀ w : Int, 0 ≤ w → w < X 49 6 → X 55 (13 * w + 9) = 0 → X 49 7 + e ≤ X 55 (13 * w + 7)) → (X 49 9 ≠ -4 → X 49 7 + e < X 55 (13 * X 49 9 + 10) + X 55 (13 * X 49 9 + 1)) → gTicksN X e = up X 49 7 (X 49 7 + e)
  | 0, _, _ => by
    have : X 49 7 + ((0 : Nat) : Int) = X 49 7 := by omega
    rw [this, up_id]; rfl
  | e + 1, hg, hp => by
    rw [gTicks_s, idle_t e (fun c w a b d => by have := hg c w a b d; omega) (fun c => by have := hp c; omega), tick_i (fun c w a b d => by have := hg c w a b d; omega), cif_f (fun c => by have := hp c.1; omega)]
    congr 1
    omega
theorem fin_t {X : Mm} {d : Nat} (h1 : 1 ≤ d) (h9 : X 49 9 ≠ -4) (hT : X 55 (13 * X 49 9 + 10) + X 55 (13 * X 49 9 + 1) = X 49 7 + d) : gTicksN X d = gLeave (up X 49 7 (X 49 7 + d)) := by
  obtain ⟨e, rfl⟩ : ∃ e : Nat, d = e + 1 := ⟨d - 1, by omega⟩
  rw [gTicks_s, idle_t e (fun c => absurd c h9) (fun _ => by omega), tick_i (fun c => absurd c h9), cif_t ⟨h9, by omega⟩]
  congr 2
  omega
theorem fGt_b (f : Int → Int) (t : Int) : ∀ n : Nat, fld (fun a i => min a (f i)) t n ≤ t ∧ (∀ i : Int, 0 ≤ i → i < n → fld (fun a i => min a (f i)) t n ≤ f i) ∧ ∀ x : Int, x ≤ t → (∀ i : Int, 0 ≤ i → i < n → x ≤ f i) → x ≤ fld (fun a i => min a (f i)) t n
  | 0 => ⟨Int.le_refl _, fun i a b => by omega, fun x h _ => h⟩
  | n + 1 => by
    obtain ⟨h1, h2, h3⟩ := fGt_b f t n
    have e : fld (fun a i => min a (f i)) t (n + 1) = min (fld (fun a i => min a (f i)) t n) (f n) := rfl
    rw [e]
    refine ⟨by omega, fun i a b => ?_, fun x hx hi => ?_⟩
    · by_cases c : i = n
      · rw [c]; omega
      · have := h2 i a (by omega); omega
    · have := h3 x hx (fun i a b => hi i a (by omega))
      have := hi n (by omega) (by omega)
      omega
theorem mix_uu {X : Mm} {a k v b j u : Int} (ha : a < 49 ∨ 66 < a) (hb : 49 ≤ b ∧ b ≤ 66) : mix (up X a k v) (up X b j u) = up (up X a k v) b j u := by
  have h1 := up_mg (M := up X a k v) (G := X) (a := b) (k := j) (v := u) hb
  have h2 := up_mm (M := X) (G := X) (a := a) (k := k) (v := v) ha
  rw [mix_i] at h2
  rw [← h1, ← h2]
noncomputable def kS (J : Mm) (t : Int) : Mm := cif (goA J t < 0) (goM J t) (up (goM J t) (25 + 2 * J (goA J t) 1) 5 (J (25 + 2 * J (goA J t) 1) 5 + J (goA J t) 4))
theorem Ivx.jmp {X : Mm} {N t : Int} (h : Ivx 24 X N) (hI : X 49 9 = -4 → mkN X = -4) (ht : X 49 7 < t) (ht2 : t ≤ 99999) : ∃ d : Nat, 1 ≤ d ∧ X 49 7 + d ≤ t ∧ Ivx 24 (mix (kS X t) (gTicksN X d)) N ∧ goN X t = X 49 7 + d := by
  have hm := h.sn.1
  obtain ⟨p1, p2, p3, p4, p5, p6, p7, p8, p9, p10⟩ := h.po
  have hW := h.wr
  rcases p10 with ⟨a9, b9, c9⟩ | ⟨a9, b9, c9, d9, e9⟩
  · have hn := hI a9
    have eC : goC X t = fGt X t := by
      unfold goC
      rw [cif_t (by omega)]
    obtain ⟨f1, f2, f3⟩ := fGt_b (fun i => X (X 14 i) 9) t (X 13 1).toNat
    have g1 : fGt X t ≤ t := f1
    have g2 : ∀ w : Int, 0 ≤ w → w < X 49 6 → X 55 (13 * w + 9) = 0 → fGt X t ≤ X 55 (13 * w + 7) := fun w w0 w1 w2 => by
      have hl := cntW_lt (p := fun w => X 55 (13 * w + 9) = 0) (n := (X 49 6).toNat) w0 (by omega) w2
      have hb := cntW_b (fun w => X 55 (13 * w + 9) = 0) w.toNat
      have e1 := h.ew.1
      have := f2 (cntW (fun w => X 55 (13 * w + 9) = 0) w.toNat) hb.1 (by omega)
      rw [h.ew.2 w w0 w1 w2, (hW w w0 w1).2.2.2.2.2.2.2.2.2] at this
      exact this
    have g3 : X 49 7 + 1 ≤ fGt X t := f3 (X 49 7 + 1) (by omega) (fun i a b => by
      obtain ⟨w, w0, w1, w2, -, w4⟩ := h.ew.at hm.1 a (by omega)
      have := no_open h hn w0 w1 w2
      show X 49 7 + 1 ≤ X (X 14 i) 9
      rw [w4, (hW w w0 w1).2.2.2.2.2.2.2.2.2]
      omega)
    have eN : goN X t = fGt X t := by
      unfold goN
      rw [eC, p2]
      omega
    have eA : goA X t = -1 := by
      unfold goA
      rw [cif_f (by omega)]
    have eM : goM X t = up X 11 6 (fGt X t) := by
      unfold goM
      rw [cif_f (by omega), eN]
    refine ⟨(fGt X t - X 49 7).toNat, by omega, by omega, ?_, by omega⟩
    rw [idle_t _ (fun _ w w0 w1 w2 => by have := g2 w w0 w1 w2; omega) (fun c => absurd a9 c), show X 49 7 + ((fGt X t - X 49 7).toNat : Int) = fGt X t by omega]
    unfold kS
    rw [eA, cif_t (by decide), eM, mix_uu (by decide) (by decide)]
    exact h.idle (by omega) (by omega) (fun c => absurd a9 c)
  · have hw := h.wd (X 49 9) a9.1 a9.2
    have hu := hw.2.1 (Or.inl c9)
    have e4 := hw.1.2.2.2.2.2.1
    have eC : goC X t = X 55 (13 * X 49 9 + 10) + X 55 (13 * X 49 9 + 1) := by
      unfold goC
      rw [cif_f (by omega), b9, hu.1, e4]
    by_cases c : X 55 (13 * X 49 9 + 10) + X 55 (13 * X 49 9 + 1) ≤ t
    · have eN : goN X t = X 55 (13 * X 49 9 + 10) + X 55 (13 * X 49 9 + 1) := by
        unfold goN
        rw [eC, p2]
        omega
      have eA : goA X t = 67 + X 49 9 := by
        unfold goA
        rw [cif_t (by omega), b9]
      have eM : goM X t = gFin (up X 11 6 (X 55 (13 * X 49 9 + 10) + X 55 (13 * X 49 9 + 1))) := by
        unfold goM
        rw [cif_t (by omega), eN]
      refine ⟨(X 55 (13 * X 49 9 + 10) + X 55 (13 * X 49 9 + 1) - X 49 7).toNat, by omega, by omega, ?_, by omega⟩
      rw [fin_t (by omega) (by omega) (by omega), show X 49 7 + ((X 55 (13 * X 49 9 + 10) + X 55 (13 * X 49 9 + 1) - X 49 7).toNat : Int) = X 55 (13 * X 49 9 + 10) + X 55 (13 * X 49 9 + 1) by omega]
      unfold kS
      rw [eA, cif_f (by omega), eM]
      exact h.fin rfl (by omega) hw.1.2.2.1 e4 (by rw [e4]) (by omega)
    · have eN : goN X t = t := by
        unfold goN
        rw [eC, p2]
        omega
      have eA : goA X t = -1 := by
        unfold goA
        rw [cif_f (by omega)]
      have eM : goM X t = up X 11 6 t := by
        unfold goM
        rw [cif_f (by omega), eN]
      refine ⟨(t - X 49 7).toNat, by omega, by omega, ?_, by omega⟩
      rw [idle_t _ (fun c => by omega) (fun _ => by omega), show X 49 7 + ((t - X 49 7).toNat : Int) = t by omega]
      unfold kS
      rw [eA, cif_t (by decide), eM, mix_uu (by decide) (by decide)]
      exact h.idle (by omega) (by omega) (fun _ => by omega)
theorem TikC_J {K : Mm} {N : Int} (h : TikC K N) : TikC (goJ K) N ∧ (∀ w : Int, 67 ≤ w → w < N → goJ K w 1 = K w 1 ∧ goJ K w 4 = K w 4) ∧ ∀ s : Int, 0 ≤ s → s ≤ 7 → goJ K (25 + 2 * s) 5 = K (25 + 2 * s) 5 := by
  have hw := nxW_r h.1.1 (K 11 6)
  have e : ∀ w : Int, 67 ≤ w → w < N → goJ K w 1 = K w 1 ∧ goJ K w 4 = K w 4 := fun w w0 w1 => ⟨goJ_n (by omega) (by omega) (by omega) (by omega), goJ_n (by omega) (by omega) (by omega) (by omega)⟩
  have e2 : ∀ s : Int, 0 ≤ s → s ≤ 7 → goJ K (25 + 2 * s) 5 = K (25 + 2 * s) 5 := fun s s0 s1 => goJ_n (by omega) (by omega) (by omega) (by omega)
  refine ⟨⟨GoC_J h.1, fun w w0 w1 => ?_, fun s s0 s1 => ?_⟩, e, e2⟩
  · rw [(e w w0 w1).1, (e w w0 w1).2]; exact h.2.1 w w0 w1
  · rw [e2 s s0 s1]; exact h.2.2 s s0 s1
theorem kGo_S {K : Mm} {N t : Int} (h : TikC K N) : kGo K t = kS (goJ K) t := by
  obtain ⟨hJ, e1, e2⟩ := TikC_J h
  have hr := goA_r hJ.1 t
  unfold kGo kS
  by_cases c : goA (goJ K) t < 0
  · rw [cif_t c, cif_t c]
  · have hw := e1 (goA (goJ K) t) (by omega) (by omega)
    have hq := (h.2.1 (goA (goJ K) t) (by omega) (by omega)).1
    rw [cif_f c, cif_f c, hw.1, hw.2, e2 _ hq.1 hq.2]
theorem mm_kS {M G : Mm} {N : Int} (h : TikC M N) (t : Int) : kS (mix M G) t = mix (kS M t) G := by
  have hr := goA_r h.1 t
  unfold kS
  rw [mm_goA h.1, mm_goM h.1]
  by_cases c : goA M t < 0
  · rw [cif_t c, cif_t c]
  · have hw := (h.2.1 (goA M t) (by omega) (by omega)).1
    rw [cif_f c, cif_f c, mix_m (a := goA M t) (by omega), mix_m (a := goA M t) (by omega), mix_m (by omega), up_mm (by omega)]
theorem Ivx.jump {K : Mm} {N t : Int} (h : Ivx 24 K N) (ht : K 49 7 < t) (ht2 : t ≤ 99999) : ∃ d : Nat, 1 ≤ d ∧ K 49 7 + d ≤ t ∧ Ivx 24 (mix (kGo K t) (gTicksN K d)) N ∧ kGo K t 11 6 = K 49 7 + d := by
  have hT := h.tik (by decide)
  obtain ⟨hJ, -, -⟩ := TikC_J hT
  have hm := h.sn.1
  have hp := h.po.2.2.2.2.2.2.2.2.2
  rw [kGo_6 hT, kGo_S hT]
  by_cases c : K 49 9 = -4 ∧ mkN K ≠ -4
  · have h5 : K 11 5 < 0 := by omega
    have eJ : goJ K = gStart K := by unfold goJ; rw [cif_t h5]
    rw [eJ] at hJ ⊢
    have hX := h.send c.1 c.2
    have hw := wOf_v (mkN_v c.2).2.2
    have e9 : gSend K (mkN K) (wOf K (K 55 (13 * mkN K + 8))) 49 9 = wOf K (K 55 (13 * mkN K + 8)) := by
      unfold gSend
      rw [up_k (by decide), up_c (by decide), up_c (by decide), up_c (by decide), up_c (by decide), up_s]
    have e7 : gSend K (mkN K) (wOf K (K 55 (13 * mkN K + 8))) 49 7 = K 49 7 := by
      unfold gSend
      rw [up_k (by decide), up_c (by decide), up_c (by decide), up_c (by decide), up_c (by decide), up_k (by decide)]
    have eT : gTick K = gTick (gSend K (mkN K) (wOf K (K 55 (13 * mkN K + 8)))) := by
      rw [gTick_i (X := gSend K (mkN K) (wOf K (K 55 (13 * mkN K + 8)))) (fun x => by omega)]
      unfold gTick
      rw [cif_t c]
    generalize gSend K (mkN K) (wOf K (K 55 (13 * mkN K + 8))) = G at *
    obtain ⟨d, d1, d2, d3, d4⟩ := hX.jmp (t := t) (fun x => by rw [mg49] at x; omega) (by rw [mg49]; omega) ht2
    rw [mg49, e7] at d2 d4
    rw [mm_goN hJ.1] at d4
    refine ⟨d, d1, d2, ?_, d4⟩
    rw [mm_kS hJ, mx_gTicksN, mix_a, mix_b] at d3
    obtain ⟨e, rfl⟩ : ∃ e : Nat, d = e + 1 := ⟨d - 1, by omega⟩
    rw [gTicks_f, eT, ← gTicks_f]
    exact d3
  · have eJ : goJ K = K := by
      unfold goJ
      by_cases h5 : K 11 5 < 0
      · rw [cif_t h5]
        have h9 : K 49 9 = -4 := by omega
        have hk : mkN K = -4 := Classical.byContradiction fun x => c ⟨h9, x⟩
        unfold gStart
        rw [h.po.2.1]
        rcases nxW_eq hm.1 h.wr h.ru h.ew h.em with ⟨a, -⟩ | ⟨-, -, -, b, -⟩
        · rw [a, cif_f (by omega)]
        · exact absurd hk b
      · rw [cif_f h5]
    rw [eJ]
    exact h.jmp (fun x => Classical.byContradiction fun y => c ⟨x, y⟩) ht ht2
/-- the class may run ahead of the reference: the clock -/
theorem TikC_m {M G : Mm} {N : Int} (h : TikC (mix M G) N) : TikC M N := by
  obtain ⟨⟨h1, h2, h3, h4, h5, h6⟩, h7, h8⟩ := h
  rw [mm11] at h2 h3 h4 h5
  have hw : ∀ w q : Int, 67 ≤ w → mix M G w q = M w q := fun w q hq => mix_m (by omega) q
  refine ⟨⟨StoC_of h1 (Int.le_refl _) (fun c q hc => by rw [mix_m (by omega)]), ?_, h3, h4, h5, fun w w0 w1 => ?_⟩, fun w w0 w1 => ?_, fun s s0 s1 => ?_⟩
  · rcases h2 with a | ⟨a, b, c⟩
    · exact Or.inl a
    · rw [hw _ _ a] at c; exact Or.inr ⟨a, b, c⟩
  · have := h6 w w0 w1; rw [hw _ _ w0] at this; exact this
  · have := h7 w w0 w1; rw [hw _ _ w0, hw _ _ w0] at this; exact this
  · have := h8 s s0 s1; rw [mix_m (by omega)] at this; exact this
theorem Ivx.jumpG {M G : Mm} {N t : Int} (h : Ivx 24 (mix M G) N) (ht : G 49 7 < t) (ht2 : t ≤ 99999) : ∃ d : Nat, 1 ≤ d ∧ G 49 7 + d ≤ t ∧ Ivx 24 (mix (kGo M t) (gTicksN G d)) N ∧ kGo M t 11 6 = G 49 7 + d := by
  obtain ⟨d, d1, d2, d3, d4⟩ := h.jump (t := t) (by rw [mg49]; exact ht) ht2
  rw [mm_kGo (TikC_m (h.tik (by decide)))] at d3 d4
  rw [mx_gTicksN, mix_a, mix_b] at d3
  rw [mg49] at d2 d4
  rw [mm11] at d4
  exact ⟨d, d1, d2, d3, d4⟩
theorem Ivx.tickG {A M : Mm} {N : Int} (h : Ivx 24 (mix A M) N) (ht : M 49 7 < 99999) : ∃ B : Mm, Ivx 24 (mix B (gTick M)) N := by
  obtain ⟨d, d1, d2, d3, d4⟩ := h.jumpG (t := M 49 7 + 1) (by omega) (by omega)
  have : d = 1 := by omega
  subst this
  exact ⟨_, d3⟩
theorem Ivx.tok {A M : Mm} {N : Int} (h : Ivx 24 (mix A M) N) : TickOK M := by
  have hm := h.sn
  have hsw := h.sw
  have hwd := h.wd
  have hss := h.ss
  have h9 := h.po.2.2.2.2.2.2.2.2.1
  unfold SN at hm
  simp only [mg49, mg55] at hm h9
  refine ⟨hm.1, by omega, by omega, fun _ hk => ?_, fun w w0 w1 => ?_, fun s s0 s1 => ?_⟩
  · obtain ⟨-, -, w, w0, w1, w2, -⟩ := mkN_v hk
    have w3 := w2.1
    have e := cntW_add (p := fun w => M 55 (13 * w + 9) = 1 ∨ M 55 (13 * w + 9) = 2) (q := fun w => M 55 (13 * w + 9) = 0) (r := fun w => (M 55 (13 * w + 9) = 1 ∨ M 55 (13 * w + 9) = 2) ∨ M 55 (13 * w + 9) = 0) (n := (M 49 6).toNat) (fun w _ _ => ⟨Iff.rfl, by omega⟩)
    have b3 := cntW_b (fun w => (M 55 (13 * w + 9) = 1 ∨ M 55 (13 * w + 9) = 2) ∨ M 55 (13 * w + 9) = 0) (M 49 6).toNat
    have b4 := cntW_b (fun w => M 55 (13 * w + 9) = 1 ∨ M 55 (13 * w + 9) = 2) (M 49 6).toNat
    have hpos : 0 < cntW (fun w => M 55 (13 * w + 9) = 0) (M 49 6).toNat := cntW_pos.mpr ⟨w, w0, by omega, w3⟩
    omega
  · have a := hsw w w0 (by rw [mg49]; exact w1)
    have b := hwd w w0 (by rw [mg49]; exact w1)
    simp only [mg49, mg55] at a b
    have b2 := b.2.1
    have b3 := b.2.2.1
    refine ⟨a.2.1, a.2.2.2.2.2.2.1, ?_⟩
    rcases (show (M 55 (13 * w + 9) = 1 ∨ M 55 (13 * w + 9) = 2) ∨ (M 55 (13 * w + 9) = 0 ∨ M 55 (13 * w + 9) = 3) by omega) with c | c
    · have := (b2 c).2.1; omega
    · have := b3 c; omega
  · have a := hss s s0 s1
    simp only [mg49, mg54, mg55] at a
    have b1 := cntW_b (fun w => M 55 (13 * w + 9) = 2) (M 49 6).toNat
    omega
