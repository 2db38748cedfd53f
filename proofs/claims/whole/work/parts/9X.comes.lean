/-! ===== come: the class's step beside the reference's ===== -/
theorem mod_mix {J I : Mm} (h : ∀ a q : Int, 49 ≤ a ∧ a ≤ 66 → J a q = I a q) : J = mix J I := by
  funext a q
  by_cases c : 49 ≤ a ∧ a ≤ 66
  · rw [mix_g c, h a q c]
  · rw [mix_m (by omega)]
theorem Ivx.come {I J : Mm} {N s ln : Int} (h : Ivx 24 I N) (hm1 : I 49 6 < 1000) (hs : 0 ≤ s ∧ s ≤ 7) (hl : 1 ≤ ln ∧ ln ≤ 99) (hJ : WelR I N s ln J) : Ivx 24 (gComes J s ln) (N + 1) ∧ ∀ a q : Int, 49 ≤ a ∧ a ≤ 66 → J a q = I a q := by
  obtain ⟨K, hK, rfl⟩ := hJ
  obtain ⟨hZ, z13⟩ := h.new hm1 hs hl hK
  obtain ⟨-, -, kf⟩ := hK
  have hn := h.n
  obtain ⟨m1, m2, m3, m4, m5, m6, m7⟩ := h.sn
  obtain ⟨p1, p2, p3, p4, p5, p6, p7, p8, p9, p10⟩ := h.po
  obtain ⟨g6, g7, g8, g9, g11, g12, g13, g20⟩ := gNew_sc I s ln
  obtain ⟨n0, n1, n2, n3, n4, n5, n6, n7, n8, n9, n10, n11, n12⟩ := gNew_new I s ln
  have k11 : ∀ q : Int, K 11 q = I 11 q := fun q => kf 11 q (by omega) (by omega) (by omega) (by omega)
  have k13 : K 13 1 = I 13 1 := kf 13 1 (by omega) (by omega) (by omega) (by omega)
  have kM : ∀ a q : Int, 49 ≤ a ∧ a ≤ 66 → K a q = I a q := fun a q ha => kf a q (by omega) (by omega) (by omega) (by omega)
  have hSZ := hZ.sto (by decide)
  have hSP : StoC (gPut K N) (N + 1) := StoC_of hSZ (Int.le_refl _) (fun c q hc => by rw [mix_m (by omega)])
  have eV := mm_vic (G := gNew I s ln) hSP (I 49 13)
  have hv := vic_eq hZ (by decide) (by rw [mg49, g6]; omega) (by rw [mg49, mg55, g6, show I 49 6 + 1 - 1 = I 49 6 by omega]; exact n9)
  rw [mg49, mg49, g13, g6, eV, show I 49 6 + 1 - 1 = I 49 6 by omega] at hv
  obtain ⟨v1, v2, v3⟩ := hv
  rw [mx_victim] at v1 v2 v3
  have ec : cntW (fun w => gNew I s ln 55 (13 * w + 9) = 0) (I 49 6 + 1).toNat = I 13 1 + 1 := by
    have := hZ.ew.1
    simp only [mg49, mg55, g6] at this
    rw [← this, z13]
  have eM : ∀ a q : Int, 49 ≤ a ∧ a ≤ 66 → gLet K N a q = I a q := fun a q ha => by
    unfold gLet
    rw [k11, k11, k13, ← p5] at *
    by_cases c : I 11 3 ≤ I 13 1 ∧ 0 ≤ vic (gPut K N) (I 11 4)
    · rw [cif_t c, up_c (by omega), up_c (by rw [p5, v1]; omega), gDis_n (by omega), gPut_n (by omega)]; exact kM a q ha
    · rw [cif_f c, gPut_n (by omega)]; exact kM a q ha
  refine ⟨?_, eM⟩
  rw [mod_mix eM, mx_gComes]
  unfold gComes
  rw [ec]
  unfold gLet
  rw [k11, k11, k11, k13, p5, v1]
  by_cases c : I 49 12 < I 13 1 + 1
  · rw [cif_t c, cif_t (by omega)]
    have hd := hZ.dropped (by decide) (v := victim (gNew I s ln) (I 49 6)) ⟨by rw [mg49, g6]; omega, v3⟩
    rw [mm_gDis hSP (by omega), up_mm (by omega), um11, mx_gDrops, mm11, gPut_n (by decide), k11] at hd
    exact hd
  · rw [cif_f c, cif_f (by omega)]
    have hz := z13
    exact ⟨hZ.n, hZ.sn, hZ.ss, hZ.sw, hZ.set, hZ.st, hZ.sh, hZ.tp, hZ.ru, hZ.wd, hZ.po, hZ.tu, hZ.ew, hZ.em, by omega, hZ.hc⟩
/-- the class may run ahead of the reference: one more word -/
theorem Ivx.comeG {M G J : Mm} {N s ln : Int} (h : Ivx 24 (mix M G) N) (hm1 : G 49 6 < 1000) (hs : 0 ≤ s ∧ s ≤ 7) (hl : 1 ≤ ln ∧ ln ≤ 99) (hJ : WelR M N s ln J) : Ivx 24 (mix J (gComes G s ln)) (N + 1) ∧ ∀ a q : Int, 49 ≤ a ∧ a ≤ 66 → J a q = M a q := by
  obtain ⟨K, hK, rfl⟩ := hJ
  have hn := h.n
  rw [mg49] at hn
  have hm := h.sn.1
  rw [mg49] at hm
  have p1 := h.po.1
  rw [mm0, mg49] at p1
  have hK' : NewR (mix M G) N s ln (mix K G) := by
    obtain ⟨f, g, k⟩ := hK
    have eE : eNd (mix M G) s ln = eNd M s ln := by
      unfold eNd
      rw [mix_m (by omega), mix_m (by omega), mix_m (by omega)]
    have eG : gAt (mix M G) s = gAt M s := by
      unfold gAt
      rw [mix_m (by omega), mix_m (by omega), mix_m (by omega), mix_m (by omega)]
    refine ⟨?_, ?_, fun c q c1 c2 c3 c4 => ?_⟩
    · rw [eE, eG, mm0, mm11, mix_m (a := N) (by omega), mix_m (a := N) (by omega), mix_m (a := N) (by omega), mix_m (a := N) (by omega), mix_m (a := N) (by omega), mix_m (a := N) (by omega), mix_m (a := N) (by omega), mix_m (a := N) (by omega), mix_m (a := N) (by omega), mix_m (a := N) (by omega), mix_m (a := N) (by omega), mix_m (a := 26 + 2 * s) (by omega), mix_m (a := 26 + 2 * s) (by omega), mix_m (a := 26 + 2 * s) (by omega), mix_m (a := 25 + 2 * s) (by omega)]
      exact f
    · rw [eE, eG, mm0, mm0, mm3, mix_m (a := 25 + 2 * s) (by omega), mix_m (a := 25 + 2 * s) (by omega), mix_m (a := 25 + 2 * s) (by omega), mix_m (a := 25 + 2 * s) (by omega)]
      exact g
    · by_cases hc : 49 ≤ c ∧ c ≤ 66
      · rw [mix_g hc, mix_g hc]
      · rw [mm0] at c2
        rw [mix_m (by omega), mix_m (by omega)]
        exact k c q c1 c2 c3 c4
  have hk := hK.2.2
  have hSP : StoC (gPut K N) (N + 1) := by
    have hZ := (h.new (by rw [mg49]; exact hm1) hs hl hK').1
    refine StoC_of (hZ.sto (by decide)) (Int.le_refl _) (fun c q hc => ?_)
    rw [mix_m (by omega), mm_gPut, mix_m (by omega)]
  have eL := mm_gLet (G := G) hSP
  obtain ⟨h1, -⟩ := h.come (by rw [mg49]; exact hm1) hs hl ⟨mix K G, hK', rfl⟩
  rw [eL, mx_gComes] at h1
  refine ⟨h1, fun a q ha => ?_⟩
  have hv := vic_r hSP (K 11 4)
  unfold gLet
  by_cases c : K 11 3 ≤ K 13 1 ∧ 0 ≤ vic (gPut K N) (K 11 4)
  · rw [cif_t c, up_c (by omega), up_c (by omega), gDis_n (by omega), gPut_n (by omega)]; exact hk a q (by omega) (by omega) (by omega) (by omega)
  · rw [cif_f c, gPut_n (by omega)]; exact hk a q (by omega) (by omega) (by omega) (by omega)
/-- the reference's own bounds over a word that comes -/
theorem MdC_comes {I : Mm} {s ln : Int} (h : MdC I) (hm1 : I 49 6 < 1000) (hs : 0 ≤ s ∧ s ≤ 7) (hl : 1 ≤ ln ∧ ln ≤ 99) : MdC (gComes I s ln) := by
  have hG := MdC_new h hm1 hs hl
  have hv := vict_v I (s := s) (len := ln) hs h.1.1.1
  have hw : gNew I s ln 55 (13 * victim (gNew I s ln) (I 49 6) + 9) = 0 := by
    obtain ⟨n0, n1, n2, n3, n4, n5, n6, n7, n8, n9, n10, n11, n12⟩ := gNew_new I s ln
    have g6 := (gNew_sc I s ln).1
    have hm := h.1.1
    unfold victim
    by_cases c0 : gNew I s ln 49 13 = 0
    · rw [cif_t c0]; exact n9
    · rw [cif_f c0]
      by_cases c1 : gNew I s ln 49 13 = 1
      · rw [cif_t c1]; exact (grt_v (J := gNew I s ln) ⟨I 49 6, hm.1, by omega, n9⟩).2.2
      · rw [cif_f c1]; exact (ofM_v (J := gNew I s ln) hs ⟨I 49 6, hm.1, by omega, n9, n6⟩).2.2
  unfold gComes
  by_cases c : I 49 12 < cntW (fun w => gNew I s ln 55 (13 * w + 9) = 0) (I 49 6 + 1).toNat
  · rw [cif_t c]
    generalize gNew I s ln = Z at *
    generalize victim Z (I 49 6) = v at *
    unfold gDrops
    generalize dmk (up Z 55 (13 * v + 9) 3) v = k
    obtain ⟨h1, h2, h3, h4⟩ := hG
    have r : ∀ a : Int, a ≠ 55 → up (up Z 55 (13 * v + 9) 3) 55 (13 * k + 12) 0 a = Z a := fun a ha => by rw [up_row ha, up_row ha]
    have e55 : ∀ w q : Int, 0 ≤ q → q ≤ 11 → q ≠ 9 → up (up Z 55 (13 * v + 9) 3) 55 (13 * k + 12) 0 55 (13 * w + q) = Z 55 (13 * w + q) := fun w q q0 q1 q2 => by rw [up_k (by omega), up_k (by omega)]
    have e9 : ∀ w : Int, w ≠ v → up (up Z 55 (13 * v + 9) 3) 55 (13 * k + 12) 0 55 (13 * w + 9) = Z 55 (13 * w + 9) := fun w hw => by rw [up_k (by omega), up_k (by omega)]
    have ev : up (up Z 55 (13 * v + 9) 3) 55 (13 * k + 12) 0 55 (13 * v + 9) = 3 := by rw [up_k (by omega), up_s]
    have e12 : ∀ w : Int, up (up Z 55 (13 * v + 9) 3) 55 (13 * k + 12) 0 55 (13 * w + 12) = 0 ∨ up (up Z 55 (13 * v + 9) 3) 55 (13 * k + 12) 0 55 (13 * w + 12) = Z 55 (13 * w + 12) := fun w => by
      by_cases c : w = k
      · rw [c, up_s]; exact Or.inl rfl
      · rw [up_k (by omega), up_k (by omega)]; exact Or.inr rfl
    generalize up (up Z 55 (13 * v + 9) 3) 55 (13 * k + 12) 0 = J at *
    have e49 := r 49 (by decide)
    refine ⟨by unfold SN; rw [e49]; exact h1, fun x x0 x1 => ?_, fun w w0 w1 => ?_, by unfold SetOK; rw [r 50 (by decide)]; exact h4⟩
    · have := h2 x x0 x1
      rw [e49, r 51 (by decide), r 52 (by decide), r 53 (by decide), r 54 (by decide), cntW_c (p := fun w => J 55 (13 * w + 9) = 2) (q := fun w => Z 55 (13 * w + 9) = 2) (fun w a b => by
        by_cases c : w = v
        · rw [c, ev, hw]; omega
        · rw [e9 w c])]
      exact this
    · rw [e49] at w1
      have := h3 w w0 w1
      have x12 := e12 w
      rw [e49, e55 w 0 (by decide) (by decide) (by decide), e55 w 1 (by decide) (by decide) (by decide), e55 w 2 (by decide) (by decide) (by decide), e55 w 3 (by decide) (by decide) (by decide), e55 w 4 (by decide) (by decide) (by decide), e55 w 5 (by decide) (by decide) (by decide), e55 w 6 (by decide) (by decide) (by decide), e55 w 7 (by decide) (by decide) (by decide), e55 w 8 (by decide) (by decide) (by decide)]
      obtain ⟨t1, t2, t3, t4, t5, t6, t7, t8, t9, t10, t11⟩ := this
      refine ⟨t1, t2, t3, t4, t5, t6, t7, t8, t9, ?_, by omega⟩
      by_cases c : w = v
      · rw [c, ev]; omega
      · rw [e9 w c]; exact t10
  · rw [cif_f c]; exact hG
