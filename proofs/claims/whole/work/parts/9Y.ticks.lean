/-! ===== a word is sent: class and reference ===== -/
theorem Ivx.snd {K J : Mm} {N p m : Int} (h : Ivx 24 K N) (hp : (0 ≤ p ∧ p < K 49 6) ∧ K 55 (13 * p + 9) = 0) (hm0 : (0 ≤ m ∧ m < K 49 6) ∧ K 55 (13 * m + 12) = 1) (hh : K 55 (13 * m + 8) = K 55 (13 * p + 8)) (h9 : K 49 9 = -4)
    (hr : ∀ a q : Int, a ≠ 13 → a ≠ 14 → a ≠ 15 → a ≠ 16 → ¬ (a = 67 + p ∧ (q = 10 ∨ q = 11 ∨ q = 12)) → ¬ (a = 11 ∧ (q = 2 ∨ q = 5)) → ¬ (a = 17 ∧ q = K 49 11) → ¬ (a = 55 ∧ (q = 13 * p + 9 ∨ q = 13 * p + 10 ∨ q = 13 * m + 12)) → ¬ (a = 56 ∧ q = K 49 11) → ¬ (a = 49 ∧ (q = 9 ∨ q = 11)) → J a q = K a q)
    (w10 : J (67 + p) 10 = 1) (w11 : J (67 + p) 11 = K 49 7) (w12 : J (67 + p) 12 = K 49 11) (e112 : J 11 2 = K 49 11 + 1) (e115 : J 11 5 = 67 + p) (e17 : J 17 (K 49 11) = 67 + p) (ev : J 55 (13 * p + 9) = 1) (ev10 : J 55 (13 * p + 10) = K 49 7) (ek : J 55 (13 * m + 12) = 0) (e56 : J 56 (K 49 11) = p) (e499 : J 49 9 = p) (e4911 : J 49 11 = K 49 11 + 1)
    (z13 : J 13 1 = K 13 1 - 1) (z15 : J 15 1 = K 15 1 - 1) (r14 : ∀ j : Int, 0 ≤ j → j < K 13 1 - 1 → J 14 j = cif (cntW (fun w => K 55 (13 * w + 9) = 0) p.toNat ≤ j) (K 14 (j + 1)) (K 14 j)) (r16 : ∀ j : Int, 0 ≤ j → j < K 15 1 - 1 → J 16 j = cif (cntW (fun w => K 55 (13 * w + 12) = 1) m.toNat ≤ j) (K 16 (j + 1)) (K 16 j)) : Ivx 24 J N := by
  obtain ⟨m1, m2, m3, m4, m5, m6, m7⟩ := h.sn
  obtain ⟨p1, p2, p3, p4, p5, p6, p7, p8, p9, p10⟩ := h.po
  have hp10 : ∀ w : Int, 0 ≤ w → w < K 49 6 → K 55 (13 * w + 9) ≠ 1 := by
    rcases p10 with ⟨-, -, c⟩ | ⟨a, -⟩
    · exact c
    · omega
  have r : ∀ a : Int, a ≠ 13 → a ≠ 14 → a ≠ 15 → a ≠ 16 → a ≠ 67 + p → a ≠ 11 → a ≠ 17 → a ≠ 55 → a ≠ 56 → a ≠ 49 → J a = K a := fun a h1 h2 h3 h4 h5 h6 h7 h8 h9 h10 => funext fun q => hr a q h1 h2 h3 h4 (by omega) (by omega) (by omega) (by omega) (by omega) (by omega)
  have e49 : ∀ q : Int, q ≠ 9 → q ≠ 11 → J 49 q = K 49 q := fun q h1 h2 => hr 49 q (by decide) (by decide) (by decide) (by decide) (by omega) (by omega) (by omega) (by omega) (by omega) (by omega)
  have h6 : J 49 6 = K 49 6 := e49 6 (by decide) (by decide)
  have h7 : J 49 7 = K 49 7 := e49 7 (by decide) (by decide)
  have e11 : ∀ q : Int, q ≠ 2 → q ≠ 5 → J 11 q = K 11 q := fun q h1 h2 => hr 11 q (by decide) (by decide) (by decide) (by decide) (by omega) (by omega) (by omega) (by omega) (by omega) (by omega)
  have e55 : ∀ w q : Int, 0 ≤ q → q ≤ 11 → q ≠ 9 → q ≠ 10 → J 55 (13 * w + q) = K 55 (13 * w + q) := fun w q q0 q1 q2 q3 => hr 55 _ (by decide) (by decide) (by decide) (by decide) (by omega) (by omega) (by omega) (by omega) (by omega) (by omega)
  have e559 : ∀ w : Int, w ≠ p → J 55 (13 * w + 9) = K 55 (13 * w + 9) := fun w hw => hr 55 _ (by decide) (by decide) (by decide) (by decide) (by omega) (by omega) (by omega) (by omega) (by omega) (by omega)
  have e5510 : ∀ w : Int, w ≠ p → J 55 (13 * w + 10) = K 55 (13 * w + 10) := fun w hw => hr 55 _ (by decide) (by decide) (by decide) (by decide) (by omega) (by omega) (by omega) (by omega) (by omega) (by omega)
  have e5512 : ∀ w : Int, w ≠ m → J 55 (13 * w + 12) = K 55 (13 * w + 12) := fun w hw => hr 55 _ (by decide) (by decide) (by decide) (by decide) (by omega) (by omega) (by omega) (by omega) (by omega) (by omega)
  have h2 : ∀ (w x : Int), (x = 2 ∨ x = 3) → (J 55 (13 * w + 9) = x ↔ K 55 (13 * w + 9) = x) := fun w x hx => by
    by_cases c : w = p
    · rw [c, ev, hp.2]; omega
    · rw [e559 w c]
  have c2 : cntW (fun w => J 55 (13 * w + 9) = 2) (K 49 6).toNat = cntW (fun w => K 55 (13 * w + 9) = 2) (K 49 6).toNat := cntW_c fun w _ _ => h2 w 2 (Or.inl rfl)
  have c3 : cntW (fun w => J 55 (13 * w + 9) = 3) (K 49 6).toNat = cntW (fun w => K 55 (13 * w + 9) = 3) (K 49 6).toNat := cntW_c fun w _ _ => h2 w 3 (Or.inr rfl)
  have c12 : cntW (fun w => K 55 (13 * w + 9) = 1 ∨ K 55 (13 * w + 9) = 2) (K 49 6).toNat = cntW (fun w => J 55 (13 * w + 9) = 1 ∨ J 55 (13 * w + 9) = 2) (K 49 6).toNat - 1 := by
    have := cntW_del (p := fun w => J 55 (13 * w + 9) = 1 ∨ J 55 (13 * w + 9) = 2) (q := fun w => K 55 (13 * w + 9) = 1 ∨ K 55 (13 * w + 9) = 2) (v := p) (Or.inl ev) hp.1.1 (n := (K 49 6).toNat) (fun w a b => by
      by_cases c : w = p
      · rw [c, hp.2]; omega
      · rw [e559 w c]; exact ⟨fun x => ⟨x, c⟩, fun x => x.1⟩)
    rw [cif_t (by omega)] at this
    exact this
  obtain ⟨l1, l2, l3⟩ := ls_del m1.1 h.ew h.em h.hc h6 hp hm0 hh (fun w a b => by
      by_cases c : w = p
      · rw [c, ev]; omega
      · rw [e559 w c]; exact ⟨fun x => ⟨x, c⟩, fun x => x.1⟩) (fun w a b => by
      by_cases c : w = m
      · rw [c, ek]; omega
      · rw [e5512 w c]; exact ⟨fun x => ⟨x, c⟩, fun x => x.1⟩) (fun w a b => e55 w 8 (by decide) (by decide) (by decide) (by decide)) z13 z15 r14 r16
  have d : ∀ a : Int, a < 67 → a ≠ 13 → a ≠ 14 → a ≠ 15 → a ≠ 16 → a ≠ 11 → a ≠ 17 → a ≠ 55 → a ≠ 56 → a ≠ 49 → J a = K a := fun a h0 h1 h2 h3 h4 h6 h7 h8 h9 h10 => r a h1 h2 h3 h4 (by omega) h6 h7 h8 h9 h10
  refine ⟨by rw [h6]; exact h.n, ?_, ?_, ?_, ?_, ?_, ?_, ?_, ?_, ?_, ?_, ?_, l1, l2, ?_, l3⟩
  · unfold SN; rw [h6, h7, e49 8 (by decide) (by decide), e49 12 (by decide) (by decide), e49 13 (by decide) (by decide), e49 20 (by decide) (by decide), e499]; exact ⟨m1, m2, m3, m4, m5, m6, Or.inr hp.1⟩
  · intro s s0 s1
    have := h.ss s s0 s1
    rw [h6, c2, d 51 (by decide) (by decide) (by decide) (by decide) (by decide) (by decide) (by decide) (by decide) (by decide) (by decide), d 52 (by decide) (by decide) (by decide) (by decide) (by decide) (by decide) (by decide) (by decide) (by decide) (by decide), d 53 (by decide) (by decide) (by decide) (by decide) (by decide) (by decide) (by decide) (by decide) (by decide) (by decide), d 54 (by decide) (by decide) (by decide) (by decide) (by decide) (by decide) (by decide) (by decide) (by decide) (by decide)]
    exact this
  · intro w w0 w1
    rw [h6] at w1
    have := h.sw w w0 w1
    rw [h6, h7, e55 w 0 (by decide) (by decide) (by decide) (by decide), e55 w 1 (by decide) (by decide) (by decide) (by decide), e55 w 2 (by decide) (by decide) (by decide) (by decide), e55 w 3 (by decide) (by decide) (by decide) (by decide), e55 w 4 (by decide) (by decide) (by decide) (by decide), e55 w 5 (by decide) (by decide) (by decide) (by decide), e55 w 6 (by decide) (by decide) (by decide) (by decide), e55 w 7 (by decide) (by decide) (by decide) (by decide), e55 w 8 (by decide) (by decide) (by decide) (by decide)]
    obtain ⟨t1, t2, t3, t4, t5, t6, t7, t8, t9, t10, t11⟩ := this
    refine ⟨t1, t2, t3, t4, t5, t6, t7, t8, t9, ?_, ?_⟩
    · by_cases c : w = p
      · rw [c, ev]; omega
      · rw [e559 w c]; exact t10
    · by_cases c : w = m
      · rw [c, ek]; omega
      · rw [e5512 w c]; exact t11
  · unfold SetOK; rw [d 50 (by decide) (by decide) (by decide) (by decide) (by decide) (by decide) (by decide) (by decide) (by decide) (by decide)]; exact h.set
  · exact CSt_of h.st (fun a q ha => hr a q (by omega) (by omega) (by omega) (by omega) (by omega) (by omega) (by omega) (by omega) (by omega) (by omega)) (d 50 (by decide) (by decide) (by decide) (by decide) (by decide) (by decide) (by decide) (by decide) (by decide) (by decide)) (d 51 (by decide) (by decide) (by decide) (by decide) (by decide) (by decide) (by decide) (by decide) (by decide) (by decide)) (d 52 (by decide) (by decide) (by decide) (by decide) (by decide) (by decide) (by decide) (by decide) (by decide) (by decide)) (d 53 (by decide) (by decide) (by decide) (by decide) (by decide) (by decide) (by decide) (by decide) (by decide) (by decide)) (d 54 (by decide) (by decide) (by decide) (by decide) (by decide) (by decide) (by decide) (by decide) (by decide) (by decide))
  · exact CSh_of h.sh (fun a q ha => hr a q (by omega) (by omega) (by omega) (by omega) (by omega) (by omega) (by omega) (by omega) (by omega) (by omega))
  · exact CTp_of (by rw [d 4 (by decide) (by decide) (by decide) (by decide) (by decide) (by decide) (by decide) (by decide) (by decide) (by decide)]) (e49 20 (by decide) (by decide)) (d 5 (by decide) (by decide) (by decide) (by decide) (by decide) (by decide) (by decide) (by decide) (by decide) (by decide)) (d 62 (by decide) (by decide) (by decide) (by decide) (by decide) (by decide) (by decide) (by decide) (by decide) (by decide)) (d 6 (by decide) (by decide) (by decide) (by decide) (by decide) (by decide) (by decide) (by decide) (by decide) (by decide)) h.tp
  · exact CRu_of (d 8 (by decide) (by decide) (by decide) (by decide) (by decide) (by decide) (by decide) (by decide) (by decide) (by decide)) (d 10 (by decide) (by decide) (by decide) (by decide) (by decide) (by decide) (by decide) (by decide) (by decide) (by decide)) (d 57 (by decide) (by decide) (by decide) (by decide) (by decide) (by decide) (by decide) (by decide) (by decide) (by decide)) h.ru
  · intro w w0 w1
    rw [h6] at w1
    obtain ⟨⟨t0, t1, t2, t3, t4, t5, t6, t7, t8, t9, t10, t11⟩, u, x, y⟩ := h.wd w w0 w1
    have rw_ : ∀ q : Int, q ≠ 10 → q ≠ 11 → q ≠ 12 → J (67 + w) q = K (67 + w) q := fun q h1 h2 h3 => hr _ q (by omega) (by omega) (by omega) (by omega) (by omega) (by omega) (by omega) (by omega) (by omega) (by omega)
    rw [h7, e4911, d 3 (by decide) (by decide) (by decide) (by decide) (by decide) (by decide) (by decide) (by decide) (by decide) (by decide), rw_ 0 (by decide) (by decide) (by decide), rw_ 1 (by decide) (by decide) (by decide), rw_ 2 (by decide) (by decide) (by decide), rw_ 3 (by decide) (by decide) (by decide), rw_ 4 (by decide) (by decide) (by decide), rw_ 5 (by decide) (by decide) (by decide), rw_ 6 (by decide) (by decide) (by decide), rw_ 7 (by decide) (by decide) (by decide), rw_ 8 (by decide) (by decide) (by decide), rw_ 9 (by decide) (by decide) (by decide), e55 w 0 (by decide) (by decide) (by decide) (by decide), e55 w 1 (by decide) (by decide) (by decide) (by decide), e55 w 2 (by decide) (by decide) (by decide) (by decide), e55 w 3 (by decide) (by decide) (by decide) (by decide), e55 w 4 (by decide) (by decide) (by decide) (by decide), e55 w 5 (by decide) (by decide) (by decide) (by decide), e55 w 6 (by decide) (by decide) (by decide) (by decide), e55 w 7 (by decide) (by decide) (by decide) (by decide), e55 w 8 (by decide) (by decide) (by decide) (by decide), e55 w 11 (by decide) (by decide) (by decide) (by decide)]
    have b12 := cntW_b (fun w => K 55 (13 * w + 9) = 1 ∨ K 55 (13 * w + 9) = 2) (K 49 6).toNat
    by_cases c : w = p
    · rw [c] at t0 t1 t2 t3 t4 t5 t6 t7 t8 t9 t10 ⊢
      rw [ev, w10, w11, w12, ev10, e56]
      exact ⟨⟨t0, t1, t2, t3, t4, t5, t6, t7, t8, t9, t10, rfl⟩, fun _ => ⟨rfl, by omega, by omega, rfl⟩, fun q => by omega, fun q => by omega⟩
    · have rq : ∀ q : Int, J (67 + w) q = K (67 + w) q := fun q => hr _ q (by omega) (by omega) (by omega) (by omega) (by omega) (by omega) (by omega) (by omega) (by omega) (by omega)
      rw [e559 w c, e5510 w c, rq 10, rq 11, rq 12]
      refine ⟨⟨t0, t1, t2, t3, t4, t5, t6, t7, t8, t9, t10, t11⟩, fun q => ?_, x, y⟩
      obtain ⟨u1, u2, u3, u4⟩ := u q
      refine ⟨u1, u2, by omega, ?_⟩
      rw [hr 56 _ (by decide) (by decide) (by decide) (by decide) (by omega) (by omega) (by omega) (by omega) (by omega) (by omega)]
      exact u4
  · unfold CPo
    rw [h6, h7, c2, c3, d 0 (by decide) (by decide) (by decide) (by decide) (by decide) (by decide) (by decide) (by decide) (by decide) (by decide), e11 6 (by decide) (by decide), e11 7 (by decide) (by decide), e11 3 (by decide) (by decide), e11 4 (by decide) (by decide), e112, e11 8 (by decide) (by decide), e115, e11 9 (by decide) (by decide), e49 8 (by decide) (by decide), e49 12 (by decide) (by decide), e49 13 (by decide) (by decide), e499, e4911, ev, ev10, e55 p 1 (by decide) (by decide) (by decide) (by decide)]
    refine ⟨p1, p2, p3, p4, p5, rfl, p7, p8, by omega, Or.inr ⟨hp.1, rfl, rfl, fun w w0 w1 x => ?_, ?_⟩⟩
    · by_cases c : w = p
      · exact c
      · rw [e559 w c] at x; exact absurd x (hp10 w w0 w1)
    · have := (h.sw p hp.1.1 hp.1.2).2.1; omega
  · intro i i0 i1
    rw [e4911] at i1
    rw [h6]
    by_cases c : i = K 49 11
    · rw [c, e56, e17, ev, w12]
      exact ⟨hp.1, rfl, Or.inl rfl, rfl⟩
    · have t := h.tu i i0 (by omega)
      have e : J 56 i = K 56 i := hr 56 i (by decide) (by decide) (by decide) (by decide) (by omega) (by omega) (by omega) (by omega) (by omega) (by omega)
      have ne : K 56 i ≠ p := fun x => by
        have t2 := t.2.2.1
        rw [x, hp.2] at t2
        omega
      rw [e, hr 17 i (by decide) (by decide) (by decide) (by decide) (by omega) (by omega) (by omega) (by omega) (by omega) (by omega), e559 _ ne, hr (67 + K 56 i) 12 (by omega) (by omega) (by omega) (by omega) (by omega) (by omega) (by omega) (by omega) (by omega) (by omega)]
      exact t
  · have := h.z; omega
theorem Ivx.send {K : Mm} {N : Int} (h : Ivx 24 K N) (h9 : K 49 9 = -4) (hk : mkN K ≠ -4) : Ivx 24 (mix (gStart K) (gSend K (mkN K) (wOf K (K 55 (13 * mkN K + 8))))) N := by
  have hm := h.sn.1
  obtain ⟨p1, p2, p3, p4, p5, p6, p7, p8, p9, p10⟩ := h.po
  have hS := h.sto (by decide)
  rcases nxM_eq hm.1 h.wr h.ru h.ew h.em with ⟨-, b⟩ | ⟨q1, q2, q3, q4, q5⟩
  · exact absurd b hk
  rcases nxW_eq hm.1 h.wr h.ru h.ew h.em with ⟨-, -, b⟩ | ⟨n1, n2, n3, n4, n5⟩
  · exact absurd b hk
  rw [n5] at n1 n2 n3
  have hw := wOf_v q4
  rw [← p2] at q1 n1
  generalize hp : wOf K (K 55 (13 * mkN K + 8)) = p at *
  generalize hmm : mkN K = m at *
  have hf := (enm_fst h.ew hm.1 n2.1 n2.2).1 n3
  have b1 := cntW_b (fun w => K 55 (13 * w + 9) = 0) p.toNat
  have b2 := cntW_b (fun w => K 55 (13 * w + 12) = 1) m.toNat
  have l1 := cntW_lt (p := fun w => K 55 (13 * w + 9) = 0) (n := (K 49 6).toNat) n2.1 (by omega) n3
  have l2 := cntW_lt (p := fun w => K 55 (13 * w + 12) = 1) (n := (K 49 6).toNat) q2.1 (by omega) q3
  have z1 := h.ew.1
  have z2 := h.em.1
  have hg : K 49 11 < K 49 6 := by
    rw [p9]
    have e := cntW_add (p := fun w => K 55 (13 * w + 9) = 1 ∨ K 55 (13 * w + 9) = 2) (q := fun w => K 55 (13 * w + 9) = 0) (r := fun w => (K 55 (13 * w + 9) = 1 ∨ K 55 (13 * w + 9) = 2) ∨ K 55 (13 * w + 9) = 0) (n := (K 49 6).toNat) (fun w _ _ => ⟨Iff.rfl, by omega⟩)
    have b3 := cntW_b (fun w => (K 55 (13 * w + 9) = 1 ∨ K 55 (13 * w + 9) = 2) ∨ K 55 (13 * w + 9) = 0) (K 49 6).toNat
    omega
  have eT : gTake K (nxM K (K 11 6)) (67 + p) = rmC (rmC K 15 16 (cntW (fun w => K 55 (13 * w + 12) = 1) m.toNat)) 13 14 (cntW (fun w => K 55 (13 * w + 9) = 0) p.toNat) := by
    unfold gTake
    simp only [rmC_n (I := K) (c := 15) (r := 16) (a := 14) (by decide) (by decide), rmC_n (I := K) (c := 15) (r := 16) (a := 13) (by decide) (by decide)]
    rw [hf, q1]
  have d13 : ∀ q : Int, rmC K 15 16 (cntW (fun w => K 55 (13 * w + 12) = 1) m.toNat) 13 q = K 13 q := fun q => rmC_n (by decide) (by decide) q
  have d14 : ∀ q : Int, rmC K 15 16 (cntW (fun w => K 55 (13 * w + 12) = 1) m.toNat) 14 q = K 14 q := fun q => rmC_n (by decide) (by decide) q
  have c15 : ∀ q : Int, gTake K (nxM K (K 11 6)) (67 + p) 15 q = rmC K 15 16 (cntW (fun w => K 55 (13 * w + 12) = 1) m.toNat) 15 q := fun q => by rw [eT, rmC_n (by decide) (by decide)]
  have c16 : ∀ q : Int, gTake K (nxM K (K 11 6)) (67 + p) 16 q = rmC K 15 16 (cntW (fun w => K 55 (13 * w + 12) = 1) m.toNat) 16 q := fun q => by rw [eT, rmC_n (by decide) (by decide)]
  have z13 : gTake K (nxM K (K 11 6)) (67 + p) 13 1 = K 13 1 - 1 := by rw [eT, rmC_sz (by decide), d13, cif_t (by omega)]
  have z15 : gTake K (nxM K (K 11 6)) (67 + p) 15 1 = K 15 1 - 1 := by rw [c15, rmC_sz (by decide), cif_t (by omega)]
  have hg0 := cntW_b (fun w => K 55 (13 * w + 9) = 1 ∨ K 55 (13 * w + 9) = 2) (K 49 6).toNat
  unfold gStart gSend
  rw [n1, cif_t (by omega), p6, p2] at *
  refine h.snd (p := p) (m := m) ⟨n2, n3⟩ ⟨q2, q3⟩ hw.2.2.symm h9 (fun a q h1 h2 h3 h4 h5 h6 h7 h8 h10 h11 => ?_) ?_ ?_ ?_ ?_ ?_ ?_ ?_ ?_ ?_ ?_ ?_ ?_ ?_ ?_ (fun j j0 j1 => ?_) (fun j j0 j1 => ?_)
  · by_cases c : 49 ≤ a ∧ a ≤ 66
    · rw [mix_g c, up_n (by omega), up_n (by omega), up_n (by omega), up_n (by omega), up_n (by omega), up_n (by omega)]
    · rw [mix_m (by omega), up_n (by omega), up_n (by omega), up_n (by omega), up_n (by omega), up_n (by omega), up_n (by omega), gTake_n ⟨h1, h2, h3, h4⟩]
  · rw [mix_m (by omega), up_c (by omega), up_c (by omega), up_c (by omega), up_k (by decide), up_k (by decide), up_s]
  · rw [mix_m (by omega), up_c (by omega), up_c (by omega), up_c (by omega), up_k (by decide), up_s]
  · rw [mix_m (by omega), up_c (by omega), up_c (by omega), up_c (by omega), up_s]
  · rw [mm11, up_k (by decide), up_s]
  · rw [mm11, up_s]
  · rw [mm17, up_c (by decide), up_c (by decide), up_s]
  · rw [mg55, up_c (by decide), up_c (by decide), up_k (by omega), up_s]
  · rw [mg55, up_c (by decide), up_c (by decide), up_s]
  · rw [mg55, up_c (by decide), up_c (by decide), up_k (by omega), up_k (by omega), up_s]
  · rw [mg56, up_c (by decide), up_s]
  · rw [mg49, up_k (by decide), up_c (by decide), up_c (by decide), up_c (by decide), up_c (by decide), up_s]
  · rw [mg49, up_s]
  · rw [mm13, up_c (by decide), up_c (by decide), up_c (by decide), up_c (by omega), up_c (by omega), up_c (by omega), z13]
  · rw [mm15, up_c (by decide), up_c (by decide), up_c (by decide), up_c (by omega), up_c (by omega), up_c (by omega), z15]
  · rw [mm14, up_c (by decide), up_c (by decide), up_c (by decide), up_c (by omega), up_c (by omega), up_c (by omega), eT, rmC_at (by decide) j0 (by rw [← eT, z13]; exact j1), d13, d14, d14]
    exact cif_iff ⟨fun x => x.2.2, fun x => ⟨by omega, by omega, x⟩⟩
  · rw [mm16, up_c (by decide), up_c (by decide), up_c (by decide), up_c (by omega), up_c (by omega), up_c (by omega), c16, rmC_at (by decide) j0 (by rw [← c15, z15]; exact j1)]
    exact cif_iff ⟨fun x => x.2.2, fun x => ⟨by omega, by omega, x⟩⟩
