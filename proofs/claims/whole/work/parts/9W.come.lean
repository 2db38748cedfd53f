/-! ===== who is dropped ===== -/
theorem fuS_ofM {I : Mm} (hm : 0 ≤ I 49 6) (hW : CWr I) (hE : EW I) : (ofM I).2 = lstW (fun w => I 55 (13 * w + 9) = 0 ∧ I 55 (13 * w + 6) = fuS I) (I 49 6).toNat := by
  have hc := cnS_eq hm hW hE
  have key : ∀ n : Nat, fld (fun (q : Int × Int) s => cif (q.1 < cntW (fun w => I 55 (13 * w + 9) = 0 ∧ I 55 (13 * w + 6) = s) (I 49 6).toNat) (cntW (fun w => I 55 (13 * w + 9) = 0 ∧ I 55 (13 * w + 6) = s) (I 49 6).toNat, lstW (fun w => I 55 (13 * w + 9) = 0 ∧ I 55 (13 * w + 6) = s) (I 49 6).toNat) q) (-4, -4) (n + 1) = (cntW (fun w => I 55 (13 * w + 9) = 0 ∧ I 55 (13 * w + 6) = fld (fun f j => cif (cnS I f < cnS I (j + 1)) (j + 1) f) 0 n) (I 49 6).toNat, lstW (fun w => I 55 (13 * w + 9) = 0 ∧ I 55 (13 * w + 6) = fld (fun f j => cif (cnS I f < cnS I (j + 1)) (j + 1) f) 0 n) (I 49 6).toNat) := by
    intro n
    induction n with
    | zero =>
      have e : ∀ (g : Int × Int → Int → Int × Int) (a : Int × Int), fld g a (0 + 1) = g a ((0 : Nat) : Int) := fun _ _ => rfl
      rw [e]
      have hb := cntW_b (fun w => I 55 (13 * w + 9) = 0 ∧ I 55 (13 * w + 6) = ((0 : Nat) : Int)) (I 49 6).toNat
      rw [cif_t (by show (-4 : Int) < _; omega)]
      rfl
    | succ n ih =>
      have e : ∀ (g : Int × Int → Int → Int × Int) (a : Int × Int), fld g a (n + 1 + 1) = g (fld g a (n + 1)) ((n + 1 : Nat) : Int) := fun _ _ => rfl
      have e2 : ∀ (g : Int → Int → Int) (a : Int), fld g a (n + 1) = g (fld g a n) (n : Int) := fun _ _ => rfl
      rw [e, e2, ih]
      generalize fld (fun f j => cif (cnS I f < cnS I (j + 1)) (j + 1) f) 0 n = f
      rw [hc f, hc (n + 1), show ((n + 1 : Nat) : Int) = (n : Int) + 1 by omega]
      by_cases c : cntW (fun w => I 55 (13 * w + 9) = 0 ∧ I 55 (13 * w + 6) = f) (I 49 6).toNat < cntW (fun w => I 55 (13 * w + 9) = 0 ∧ I 55 (13 * w + 6) = (n : Int) + 1) (I 49 6).toNat
      · rw [cif_t c, cif_t c]
      · rw [cif_f c, cif_f c]
  have := key 7
  unfold ofM fuS
  rw [this]
theorem vic_eq {Z : Mm} {N b : Int} (h : Ivx b Z N) (hb : b ≤ 25) (h1 : 1 ≤ Z 49 6) (hw : Z 55 (13 * (Z 49 6 - 1) + 9) = 0) : vic Z (Z 49 13) = 67 + victim Z (Z 49 6 - 1) ∧ (0 ≤ victim Z (Z 49 6 - 1) ∧ victim Z (Z 49 6 - 1) < Z 49 6) ∧ Z 55 (13 * victim Z (Z 49 6 - 1) + 9) = 0 := by
  have hm := h.sn.1
  have h13 := h.sn.2.2.2.2.1
  have hE := h.ew
  unfold vic victim
  by_cases c0 : Z 49 13 = 0
  · rw [cif_f (by omega), cif_f (by omega), cif_t c0]
    refine ⟨?_, by omega, hw⟩
    have e1 := cntW_s (fun w => Z 55 (13 * w + 9) = 0) (i := Z 49 6 - 1) (by omega)
    rw [cif_t hw, show Z 49 6 - 1 + 1 = Z 49 6 by omega, ← hE.1] at e1
    have hb1 := cntW_b (fun w => Z 55 (13 * w + 9) = 0) (Z 49 6 - 1).toNat
    rw [lnA_in (h.sto hb).1 (by omega) (by omega), show Z 13 1 - 1 = cntW (fun w => Z 55 (13 * w + 9) = 0) (Z 49 6 - 1).toNat by omega]
    exact hE.2 _ (by omega) (by omega) hw
  · by_cases c1 : Z 49 13 = 1
    · rw [cif_t c1, cif_f c0, cif_t c1]
      have hv := grt_v (J := Z) ⟨Z 49 6 - 1, by omega, by omega, hw⟩
      rcases grL_eq hm.1 h.wr h.ru hE with ⟨-, q⟩ | ⟨q1, q2, q3⟩
      · omega
      · exact ⟨q1, q2, q3⟩
    · rw [cif_f c1, cif_t (show Z 49 13 = 2 by omega), cif_f c0, cif_f c1]
      have hs := (h.sw (Z 49 6 - 1) (by omega) (by omega)).2.2.2.2.2.2.1
      have hv := ofM_v (J := Z) hs ⟨Z 49 6 - 1, by omega, by omega, hw, rfl⟩
      have ef := fuS_ofM hm.1 h.wr hE
      rcases laO_eq hm.1 h.wr hE (fuS Z) with ⟨-, q⟩ | ⟨q1, q2⟩
      · omega
      · rw [q1, ← ef]
        exact ⟨rfl, ⟨hv.1, hv.2.1⟩, hv.2.2⟩
/-! ===== a new word ===== -/
theorem gNew_fr (I : Mm) (s ln : Int) {a q : Int} (h : ¬ (a = 49 ∧ q = 6) ∧ ¬ ((a = 51 ∨ a = 52 ∨ a = 53) ∧ q = s) ∧ ¬ (a = 55 ∧ 13 * I 49 6 ≤ q ∧ q ≤ 13 * I 49 6 + 12)) : gNew I s ln a q = I a q := by
  unfold gNew
  rw [up_n (by omega), up_n (by omega), up_n (by omega), up_n (by omega), up_n (by omega), up_n (by omega), up_n (by omega), up_n (by omega), up_n (by omega), up_n (by omega), up_n (by omega), up_n (by omega), up_n (by omega), up_n (by omega), up_n (by omega), up_n (by omega), up_n (by omega)]
theorem gNew_st (I : Mm) (s ln : Int) : gNew I s ln 51 s = nEnd I s ln ∧ gNew I s ln 52 s = nGate I s ∧ gNew I s ln 53 s = I 53 s + 1 := by
  unfold gNew
  simp [up]
theorem nEnd_b {I : Mm} {s ln : Int} (hS : SS I) (hset : SetOK I) (h8 : 0 ≤ I 49 8 ∧ I 49 8 ≤ 1584 * I 49 6) (hs : 0 ≤ s ∧ s ≤ 7) (hl : 1 ≤ ln ∧ ln ≤ 99) : 0 ≤ nEnd I s ln ∧ nEnd I s ln ≤ 1584 * (I 49 6 + 1) := by
  have t1 := hset s 1 hs.1 hs.2 (by decide) (by decide)
  unfold okSet at t1
  have h1 := hS s hs.1 hs.2
  have d0 : 0 ≤ 16 * ln / I 50 (7 * s + 1) := Int.ediv_nonneg (by omega) (by omega)
  have d1 : 16 * ln / I 50 (7 * s + 1) ≤ 16 * ln := Int.ediv_le_self _ (by omega)
  unfold nEnd
  by_cases c : I 49 8 < I 51 s
  · rw [cif_t c]; omega
  · rw [cif_f c]; omega
theorem nGate_b {I : Mm} {s : Int} (hS : SS I) (hset : SetOK I) (h7 : 0 ≤ I 49 7 ∧ I 49 7 ≤ 99999) (hm : 0 ≤ I 49 6) (hs : 0 ≤ s ∧ s ≤ 7) : 0 ≤ nGate I s ∧ nGate I s ≤ 99999 + 99 * (I 49 6 + 1) := by
  have t3 := hset s 3 hs.1 hs.2 (by decide) (by decide)
  unfold okSet at t3
  have h1 := hS s hs.1 hs.2
  unfold nGate nGate0
  by_cases c : I 53 s = 0
  · rw [cif_t c, cif_f (by omega)]; omega
  · rw [cif_f c]
    by_cases c : I 49 7 < I 52 s + I 50 (7 * s + 3)
    · rw [cif_t c]; omega
    · rw [cif_f c]; omega
theorem cnt_new {p q : Int → Prop} {m : Int} (hm : 0 ≤ m) (h : ∀ w : Int, 0 ≤ w → w < m → (q w ↔ p w)) : cntW q (m + 1).toNat = cntW p m.toNat + cif (q m) 1 0 := by
  rw [cntW_s q hm, cntW_c (fun w a b => h w a (by omega))]
/-- the reference's own bounds, over a new word -/
def MdC (I : Mm) : Prop := SN I ∧ SS I ∧ SW I ∧ SetOK I
theorem MdC_new {I : Mm} {s ln : Int} (h : MdC I) (hm1 : I 49 6 < 1000) (hs : 0 ≤ s ∧ s ≤ 7) (hl : 1 ≤ ln ∧ ln ≤ 99) : MdC (gNew I s ln) := by
  obtain ⟨h1, h2, h3, h4⟩ := h
  obtain ⟨m1, m2, m3, m4, m5, m6, m7⟩ := h1
  obtain ⟨n0, n1, n2, n3, n4, n5, n6, n7, n8, n9, n10, n11, n12⟩ := gNew_new I s ln
  obtain ⟨g6, g7, g8, g9, g11, g12, g13, g20⟩ := gNew_sc I s ln
  obtain ⟨k1, k2, k3⟩ := gNew_st I s ln
  have bE := nEnd_b h2 h4 m3 hs hl
  have bG := nGate_b h2 h4 m2 m1.1 hs
  have old : ∀ w k : Int, w < I 49 6 → 0 ≤ k → k ≤ 12 → gNew I s ln 55 (13 * w + k) = I 55 (13 * w + k) := fun w k hw k0 k1 => gNew_old I s ln (by omega) ⟨k0, k1⟩
  have ec : cntW (fun w => gNew I s ln 55 (13 * w + 9) = 2) (I 49 6 + 1).toNat = cntW (fun w => I 55 (13 * w + 9) = 2) (I 49 6).toNat := by
    rw [cnt_new m1.1 (p := fun w => I 55 (13 * w + 9) = 2) (fun w a b => by rw [old w 9 b (by decide) (by decide)]), n9, cif_f (by decide), Int.add_zero]
  have e50 : ∀ q : Int, gNew I s ln 50 q = I 50 q := fun q => gNew_fr I s ln (by omega)
  refine ⟨?_, fun x x0 x1 => ?_, fun w w0 w1 => ?_, fun x k a b c d => by rw [e50]; exact h4 x k a b c d⟩
  · unfold SN
    rw [g6, g7, g8, g9, g12, g13, g20]
    exact ⟨by omega, m2, by omega, m4, m5, m6, by omega⟩
  · have hx := h2 x x0 x1
    have e54 : gNew I s ln 54 x = I 54 x := gNew_fr I s ln (by omega)
    rw [g6, ec, e54]
    by_cases c : x = s
    · rw [c, k1, k2, k3]
      rw [c] at hx
      omega
    · rw [gNew_fr I s ln (a := 51) (by omega), gNew_fr I s ln (a := 52) (by omega), gNew_fr I s ln (a := 53) (by omega)]
      omega
  · rw [g6] at w1
    rw [g6, g7]
    by_cases c : w = I 49 6
    · have t0 := h4 s 0 hs.1 hs.2 (by decide) (by decide)
      have t2 := h4 s 2 hs.1 hs.2 (by decide) (by decide)
      have t4 := h4 s 4 hs.1 hs.2 (by decide) (by decide)
      unfold okSet at t0 t2 t4
      have hx := h2 s hs.1 hs.2
      rw [c, n0, n1, n2, n3, n4, n5, n6, n7, n8, n9, n12]
      omega
    · have hw := h3 w w0 (by omega)
      rw [old w 0 (by omega) (by decide) (by decide), old w 1 (by omega) (by decide) (by decide), old w 2 (by omega) (by decide) (by decide), old w 3 (by omega) (by decide) (by decide), old w 4 (by omega) (by decide) (by decide), old w 5 (by omega) (by decide) (by decide), old w 6 (by omega) (by decide) (by decide), old w 7 (by omega) (by decide) (by decide), old w 8 (by omega) (by decide) (by decide), old w 9 (by omega) (by decide) (by decide), old w 12 (by omega) (by decide) (by decide)]
      omega
theorem Ivx.new {I K : Mm} {N s ln : Int} (h : Ivx 24 I N) (hm1 : I 49 6 < 1000) (hs : 0 ≤ s ∧ s ≤ 7) (hl : 1 ≤ ln ∧ ln ≤ 99) (hK : NewR I N s ln K) : Ivx 25 (mix (gPut K N) (gNew I s ln)) (N + 1) ∧ mix (gPut K N) (gNew I s ln) 13 1 = I 13 1 + 1 := by
  obtain ⟨m1, m2, m3, m4, m5, m6, m7⟩ := h.sn
  obtain ⟨⟨f0, f1, f2, f3, f4, f5, f6, f7, f8, f9, f10⟩, ⟨k3, k03, kE, kG, kC⟩, kf⟩ := hK
  obtain ⟨n0, n1, n2, n3, n4, n5, n6, n7, n8, n9, n10, n11, n12⟩ := gNew_new I s ln
  obtain ⟨g6, g7, g8, g9, g11, g12, g13, g20⟩ := gNew_sc I s ln
  obtain ⟨s1, s2, s3⟩ := gNew_st I s ln
  obtain ⟨md1, md2, md3, md4⟩ := MdC_new ⟨h.sn, h.ss, h.sw, h.set⟩ hm1 hs hl
  obtain ⟨p1, p2, p3, p4, p5, p6, p7, p8, p9, p10⟩ := h.po
  have hn := h.n
  have hz := h.sz
  have hst := h.st s hs.1 hs.2
  have old : ∀ w k : Int, w < I 49 6 → 0 ≤ k → k ≤ 12 → gNew I s ln 55 (13 * w + k) = I 55 (13 * w + k) := fun w k hw k0 k1 => gNew_old I s ln (by omega) ⟨k0, k1⟩
  have eE : eNd I s ln = nEnd I s ln := by
    unfold eNd nEnd
    rw [hst.2.1, p3, hst.1 1 (by decide) (by decide)]
    by_cases c : I 49 8 < I 51 s
    · rw [cif_t c, Int.max_eq_left (by omega)]
    · rw [cif_f c, Int.max_eq_right (by omega)]
  have eG : gAt I s = nGate I s := by
    unfold gAt nGate nGate0
    rw [hst.2.2.2.1, p2, hst.2.2.1, hst.1 3 (by decide) (by decide)]
    by_cases c : I 53 s = 0
    · rw [cif_t c, cif_t c, cif_f (by omega)]
    · rw [cif_f c, cif_f c]
      by_cases d : I 49 7 < I 52 s + I 50 (7 * s + 3)
      · rw [cif_t d, Int.max_eq_right (by omega)]
      · rw [cif_f d, Int.max_eq_left (by omega)]
  rw [eE] at f8 kE
  rw [eG] at f9 kG
  have kp : ∀ c q : Int, (c < 49 ∨ 66 < c) → c ≠ 13 → c ≠ 14 → c ≠ 15 → c ≠ 16 → mix (gPut K N) (gNew I s ln) c q = K c q := fun c q h1 h2 h3 h4 h5 => by rw [mix_m h1, gPut_n ⟨h2, h3, h4, h5⟩]
  have kr : ∀ c q : Int, c ≠ N → ¬ (c = 3 ∧ q = I 0 3) → ¬ (c = 0 ∧ q = 3) → ¬ (c = 25 + 2 * s ∧ (q = 2 ∨ q = 3 ∨ q = 4)) → (c < 49 ∨ 66 < c) → c ≠ 13 → c ≠ 14 → c ≠ 15 → c ≠ 16 → mix (gPut K N) (gNew I s ln) c q = I c q := fun c q a1 a2 a3 a4 a5 a6 a7 a8 a9 => by rw [kp c q a5 a6 a7 a8 a9, kf c q a1 a2 a3 a4]
  have kg : ∀ c q : Int, 49 ≤ c ∧ c ≤ 66 → mix (gPut K N) (gNew I s ln) c q = gNew I s ln c q := fun c q hc => mix_g hc q
  have kn : ∀ q : Int, mix (gPut K N) (gNew I s ln) (67 + I 49 6) q = K N q := fun q => by rw [kp _ q (by omega) (by omega) (by omega) (by omega) (by omega), ← hn]
  have k13 : K 13 1 = I 13 1 := kf 13 1 (by omega) (by omega) (by omega) (by omega)
  have k15 : K 15 1 = I 15 1 := kf 15 1 (by omega) (by omega) (by omega) (by omega)
  have z13 : mix (gPut K N) (gNew I s ln) 13 1 = I 13 1 + 1 := by rw [mm13, (gPut_z K N).1, k13]
  have z15 : mix (gPut K N) (gNew I s ln) 15 1 = I 15 1 + 1 := by rw [mm15, (gPut_z K N).2, k15]
  have r14 : ∀ j : Int, mix (gPut K N) (gNew I s ln) 14 j = cif (j = I 13 1) N (I 14 j) := fun j => by rw [mm14, (gPut_14 K N j).1, k13, kf 14 j (by omega) (by omega) (by omega) (by omega)]
  have r16 : ∀ j : Int, mix (gPut K N) (gNew I s ln) 16 j = cif (j = I 15 1) N (I 16 j) := fun j => by rw [mm16, (gPut_14 K N j).2, k15, kf 16 j (by omega) (by omega) (by omega) (by omega)]
  refine ⟨?_, z13⟩
  generalize hZ : mix (gPut K N) (gNew I s ln) = Z at *
  have kg' : ∀ c : Int, 49 ≤ c ∧ c ≤ 66 → Z c = gNew I s ln c := fun c hc => funext fun q => kg c q hc
  have e49 := kg' 49 (by decide)
  have e55 := kg' 55 (by decide)
  have ec : ∀ x : Int, x ≠ 0 → cntW (fun w => Z 55 (13 * w + 9) = x) (Z 49 6).toNat = cntW (fun w => I 55 (13 * w + 9) = x) (I 49 6).toNat := fun x hx => by
    rw [e49, e55, g6, cnt_new m1.1 (p := fun w => I 55 (13 * w + 9) = x) (fun w a b => by rw [old w 9 b (by decide) (by decide)]), n9, cif_f (by omega), Int.add_zero]
  have fr : ∀ a q : Int, a ≠ 49 → a ≠ 51 → a ≠ 52 → a ≠ 53 → a ≠ 55 → gNew I s ln a q = I a q := fun a q b1 b2 b3 b4 b5 => gNew_fr I s ln (by omega)
  refine ⟨by rw [e49, g6]; omega, ?_, ?_, ?_, ?_, ?_, ?_, ?_, ?_, ?_, ?_, ?_, ?_, ?_, ?_, ?_⟩
  · unfold SN; rw [e49]; exact md1
  · unfold SS; rw [e49, e55, kg' 51 (by decide), kg' 52 (by decide), kg' 53 (by decide), kg' 54 (by decide)]; exact md2
  · unfold SW; rw [e49, e55]; exact md3
  · unfold SetOK; rw [kg' 50 (by decide)]; exact md4
  · intro x x0 x1
    have hx := h.st x x0 x1
    rw [kg' 50 (by decide), kg' 51 (by decide), kg' 52 (by decide), kg' 53 (by decide), kg' 54 (by decide), fr 54 x (by decide) (by decide) (by decide) (by decide) (by decide)]
    refine ⟨fun k a b => ?_, ?_⟩
    · rw [kr (26 + 2 * x) k (by omega) (by omega) (by omega) (by omega) (by omega) (by omega) (by omega) (by omega) (by omega), fr 50 _ (by decide) (by decide) (by decide) (by decide) (by decide)]
      exact hx.1 k a b
    · rw [kr (25 + 2 * x) 5 (by omega) (by omega) (by omega) (by omega) (by omega) (by omega) (by omega) (by omega) (by omega)]
      by_cases c : x = s
      · rw [c] at hx ⊢
        rw [kp (25 + 2 * s) 2 (by omega) (by omega) (by omega) (by omega) (by omega), kp (25 + 2 * s) 3 (by omega) (by omega) (by omega) (by omega) (by omega), kp (25 + 2 * s) 4 (by omega) (by omega) (by omega) (by omega) (by omega), kE, kG, kC, s1, s2, s3, hx.2.2.2.1]
        exact ⟨rfl, rfl, rfl, hx.2.2.2.2⟩
      · rw [kr (25 + 2 * x) 2 (by omega) (by omega) (by omega) (by omega) (by omega) (by omega) (by omega) (by omega) (by omega), kr (25 + 2 * x) 3 (by omega) (by omega) (by omega) (by omega) (by omega) (by omega) (by omega) (by omega) (by omega), kr (25 + 2 * x) 4 (by omega) (by omega) (by omega) (by omega) (by omega) (by omega) (by omega) (by omega) (by omega), gNew_fr I s ln (a := 51) (by omega), gNew_fr I s ln (a := 52) (by omega), gNew_fr I s ln (a := 53) (by omega)]
        exact hx.2
  · exact CSh_of h.sh (fun a q ha => by
      rcases (show a ≤ 48 ∨ 49 ≤ a by omega) with c | c
      · exact kr a q (by omega) (by omega) (by omega) (by omega) (by omega) (by omega) (by omega) (by omega) (by omega)
      · rw [kg' a (by omega), fr a q (by omega) (by omega) (by omega) (by omega) (by omega)])
  · refine CTp_of (kr 4 1 (by omega) (by omega) (by omega) (by omega) (by omega) (by omega) (by omega) (by omega) (by omega)) (by rw [e49, g20]) (funext fun q => kr 5 q (by omega) (by omega) (by omega) (by omega) (by omega) (by omega) (by omega) (by omega) (by omega)) (by rw [kg' 62 (by decide)]; exact funext fun q => fr 62 q (by decide) (by decide) (by decide) (by decide) (by decide)) (funext fun q => kr 6 q (by omega) (by omega) (by omega) (by omega) (by omega) (by omega) (by omega) (by omega) (by omega)) h.tp
  · exact CRu_of (funext fun q => kr 8 q (by omega) (by omega) (by omega) (by omega) (by omega) (by omega) (by omega) (by omega) (by omega)) (funext fun q => kr 10 q (by omega) (by omega) (by omega) (by omega) (by omega) (by omega) (by omega) (by omega) (by omega)) (by rw [kg' 57 (by decide)]; exact funext fun q => fr 57 q (by decide) (by decide) (by decide) (by decide) (by decide)) h.ru
  · intro w w0 w1
    rw [e49, g6] at w1
    rw [e49, e55, kg' 56 (by decide), g7, g11]
    by_cases c : w = I 49 6
    · rw [c, kn, kn, kn, kn, kn, kn, kn, kn, kn, kn, kn, kn, kn, n0, n1, n2, n3, n4, n5, n6, n7, n8, n9, n10, f0, f1, f2, f3, f4, f5, f6, f7, f8, f9, f10, ← p1, kp 3 (I 0 3) (by omega) (by omega) (by omega) (by omega) (by omega), k3, p2, hst.1 4 (by decide) (by decide), hst.1 0 (by decide) (by decide), hst.1 2 (by decide) (by decide), hst.2.2.2.1]
      exact ⟨⟨by omega, rfl, rfl, rfl, rfl, rfl, rfl, rfl, rfl, rfl, rfl, rfl⟩, fun q => by omega, fun _ => rfl, fun q => by omega⟩
    · have kw : ∀ q : Int, Z (67 + w) q = I (67 + w) q := fun q => kr (67 + w) q (by omega) (by omega) (by omega) (by omega) (by omega) (by omega) (by omega) (by omega) (by omega)
      rw [kr 3 w (by omega) (by omega) (by omega) (by omega) (by omega) (by omega) (by omega) (by omega) (by omega), kw, kw, kw, kw, kw, kw, kw, kw, kw, kw, kw, kw, kw, fr 56 _ (by decide) (by decide) (by decide) (by decide) (by decide), old w 0 (by omega) (by decide) (by decide), old w 1 (by omega) (by decide) (by decide), old w 2 (by omega) (by decide) (by decide), old w 3 (by omega) (by decide) (by decide), old w 4 (by omega) (by decide) (by decide), old w 5 (by omega) (by decide) (by decide), old w 6 (by omega) (by decide) (by decide), old w 7 (by omega) (by decide) (by decide), old w 8 (by omega) (by decide) (by decide), old w 9 (by omega) (by decide) (by decide), old w 10 (by omega) (by decide) (by decide), old w 11 (by omega) (by decide) (by decide)]
      exact h.wd w w0 (by omega)
  · have e11 : ∀ q : Int, Z 11 q = I 11 q := fun q => kr 11 q (by omega) (by omega) (by omega) (by omega) (by omega) (by omega) (by omega) (by omega) (by omega)
    have ec12 : cntW (fun w => Z 55 (13 * w + 9) = 1 ∨ Z 55 (13 * w + 9) = 2) (Z 49 6).toNat = cntW (fun w => I 55 (13 * w + 9) = 1 ∨ I 55 (13 * w + 9) = 2) (I 49 6).toNat := by
      rw [e49, e55, g6, cnt_new m1.1 (p := fun w => I 55 (13 * w + 9) = 1 ∨ I 55 (13 * w + 9) = 2) (fun w a b => by rw [old w 9 b (by decide) (by decide)]), n9, cif_f (by omega), Int.add_zero]
    unfold CPo
    rw [ec 2 (by decide), ec 3 (by decide), ec12, e11, e11, e11, e11, e11, e11, e11, e11, kp 0 3 (by omega) (by omega) (by omega) (by omega) (by omega), k03, e49, e55, g6, g7, g8, g9, g11, g12, g13]
    refine ⟨by omega, p2, p3, p4, p5, p6, p7, p8, p9, ?_⟩
    rcases p10 with ⟨a, b, c⟩ | ⟨a, b, c, d, e⟩
    · refine Or.inl ⟨a, b, fun w w0 w1 x => ?_⟩
      by_cases cw : w = I 49 6
      · rw [cw, n9] at x; omega
      · rw [old w 9 (by omega) (by decide) (by decide)] at x; exact c w w0 (by omega) x
    · refine Or.inr ⟨by omega, b, ?_, fun w w0 w1 x => ?_, ?_⟩
      · rw [old _ 9 (by omega) (by decide) (by decide)]; exact c
      · by_cases cw : w = I 49 6
        · rw [cw, n9] at x; omega
        · rw [old w 9 (by omega) (by decide) (by decide)] at x; exact d w w0 (by omega) x
      · rw [old _ 10 (by omega) (by decide) (by decide), old _ 1 (by omega) (by decide) (by decide)]; exact e
  · intro i i0 i1
    rw [e49, g11] at i1
    have t := h.tu i i0 i1
    rw [e49, e55, kg' 56 (by decide), g6, fr 56 _ (by decide) (by decide) (by decide) (by decide) (by decide), kr 17 i (by omega) (by omega) (by omega) (by omega) (by omega) (by omega) (by omega) (by omega) (by omega), kr (67 + I 56 i) 12 (by omega) (by omega) (by omega) (by omega) (by omega) (by omega) (by omega) (by omega) (by omega), old (I 56 i) 9 (by omega) (by decide) (by decide)]
    exact ⟨by omega, t.2⟩
  · unfold EW
    rw [e49, e55, g6, z13]
    exact enm_add h.ew m1.1 (fun w a b => by rw [old w 9 b (by decide) (by decide)]) n9 (fun j a b => by rw [r14, cif_f (by omega)]) (by rw [r14, cif_t rfl]; exact hn)
  · unfold EM
    rw [e49, e55, g6, z15]
    exact enm_add h.em m1.1 (fun w a b => by rw [old w 12 b (by decide) (by decide)]) n12 (fun j a b => by rw [r16, cif_f (by omega)]) (by rw [r16, cif_t rfl]; exact hn)
  · have := h.z; omega
  · intro x
    rw [e49, e55, g6, cnt_new m1.1 (p := fun w => I 55 (13 * w + 12) = 1 ∧ I 55 (13 * w + 8) = x) (fun w a b => by rw [old w 12 b (by decide) (by decide), old w 8 b (by decide) (by decide)]), cnt_new m1.1 (p := fun w => I 55 (13 * w + 9) = 0 ∧ I 55 (13 * w + 8) = x) (fun w a b => by rw [old w 9 b (by decide) (by decide), old w 8 b (by decide) (by decide)]), h.hc x, n9, n12]
    congr 1
    exact cif_iff ⟨fun q => ⟨rfl, q.2⟩, fun q => ⟨rfl, q.2⟩⟩
