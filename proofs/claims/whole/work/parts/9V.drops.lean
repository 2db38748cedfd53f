/-! ===== a word is dropped: class and reference ===== -/
theorem dmk_9 (Z : Mm) (v x : Int) : dmk (up Z 55 (13 * v + 9) x) v = dmk Z v := by
  unfold dmk
  rw [up_k (k' := 13 * v + 12) (by omega), up_k (k' := 13 * v + 8) (by omega), up_c (a' := 49) (by decide)]
  congr 1
  refine fld_cong fun m k _ _ => ?_
  rw [up_k (by omega), up_k (by omega)]
theorem gDisQ_1 {Z : Mm} {N w : Int} (hS : StoC Z N) (hw : 67 ≤ w) : gDisQ (gDis1 Z w) w = gDisQ Z w := by
  have e15 : ∀ q : Int, gDis1 Z w 15 q = Z 15 q := fun q => rmC_n (by decide) (by decide) q
  have e16 : ∀ q : Int, gDis1 Z w 16 q = Z 16 q := fun q => rmC_n (by decide) (by decide) q
  have ew : ∀ c q : Int, 67 ≤ c → gDis1 Z w c q = Z c q := fun c q hc => rmC_n (by omega) (by omega) q
  have el : laM (gDis1 Z w) (Z w 2) = laM Z (Z w 2) := by
    unfold laM
    rw [e15]
    refine lstL_c fun i a b => ?_
    have := hS.2.1.2 i a (by omega)
    rw [e16, ew _ _ this.1]
  unfold gDisQ
  simp only [e15, e16, ew w 2 hw, el]
/-- what the dropping of v, with the mark of k, makes of a memory -/
theorem Ivx.drp {Z J : Mm} {N b v k : Int} (h : Ivx b Z N) (hb : b ≤ 25) (hv : (0 ≤ v ∧ v < Z 49 6) ∧ Z 55 (13 * v + 9) = 0) (hk : (0 ≤ k ∧ k < Z 49 6) ∧ Z 55 (13 * k + 12) = 1) (hh : Z 55 (13 * k + 8) = Z 55 (13 * v + 8))
    (hr : ∀ a q : Int, a ≠ 13 → a ≠ 14 → a ≠ 15 → a ≠ 16 → ¬ (a = 67 + v ∧ q = 10) → ¬ (a = 11 ∧ q = 9) → ¬ (a = 55 ∧ (q = 13 * v + 9 ∨ q = 13 * k + 12)) → J a q = Z a q)
    (e10 : J (67 + v) 10 = 3) (e119 : J 11 9 = Z 11 9 + 1) (ev : J 55 (13 * v + 9) = 3) (ek : J 55 (13 * k + 12) = 0)
    (z13 : J 13 1 = Z 13 1 - 1) (z15 : J 15 1 = Z 15 1 - 1) (r14 : ∀ j : Int, 0 ≤ j → j < Z 13 1 - 1 → J 14 j = cif (cntW (fun w => Z 55 (13 * w + 9) = 0) v.toNat ≤ j) (Z 14 (j + 1)) (Z 14 j)) (r16 : ∀ j : Int, 0 ≤ j → j < Z 15 1 - 1 → J 16 j = cif (cntW (fun w => Z 55 (13 * w + 12) = 1) k.toNat ≤ j) (Z 16 (j + 1)) (Z 16 j)) : Ivx 24 J N := by
  have hm := h.sn.1
  have r : ∀ a : Int, a ≠ 13 → a ≠ 14 → a ≠ 15 → a ≠ 16 → a ≠ 67 + v → a ≠ 11 → a ≠ 55 → J a = Z a := fun a h1 h2 h3 h4 h5 h6 h7 => funext fun q => hr a q h1 h2 h3 h4 (by omega) (by omega) (by omega)
  have e49 := r 49 (by decide) (by decide) (by decide) (by decide) (by omega) (by decide) (by decide)
  have h6 : J 49 6 = Z 49 6 := by rw [e49]
  have e11 : ∀ q : Int, q ≠ 9 → J 11 q = Z 11 q := fun q hq => hr 11 q (by decide) (by decide) (by decide) (by decide) (by omega) (by omega) (by omega)
  have e55 : ∀ w q : Int, 0 ≤ q → q ≤ 11 → q ≠ 9 → J 55 (13 * w + q) = Z 55 (13 * w + q) := fun w q q0 q1 q2 => hr 55 _ (by decide) (by decide) (by decide) (by decide) (by omega) (by omega) (by omega)
  have e559 : ∀ w : Int, w ≠ v → J 55 (13 * w + 9) = Z 55 (13 * w + 9) := fun w hw => hr 55 _ (by decide) (by decide) (by decide) (by decide) (by omega) (by omega) (by omega)
  have e5512 : ∀ w : Int, w ≠ k → J 55 (13 * w + 12) = Z 55 (13 * w + 12) := fun w hw => hr 55 _ (by decide) (by decide) (by decide) (by decide) (by omega) (by omega) (by omega)
  have h2 : ∀ (w x : Int), (x = 1 ∨ x = 2) → (J 55 (13 * w + 9) = x ↔ Z 55 (13 * w + 9) = x) := fun w x hx => by
    by_cases c : w = v
    · rw [c, ev, hv.2]; omega
    · rw [e559 w c]
  have c2 : cntW (fun w => J 55 (13 * w + 9) = 2) (Z 49 6).toNat = cntW (fun w => Z 55 (13 * w + 9) = 2) (Z 49 6).toNat := cntW_c fun w _ _ => h2 w 2 (Or.inr rfl)
  have c12 : cntW (fun w => J 55 (13 * w + 9) = 1 ∨ J 55 (13 * w + 9) = 2) (Z 49 6).toNat = cntW (fun w => Z 55 (13 * w + 9) = 1 ∨ Z 55 (13 * w + 9) = 2) (Z 49 6).toNat := cntW_c fun w _ _ => or_congr (h2 w 1 (Or.inl rfl)) (h2 w 2 (Or.inr rfl))
  have c3 : cntW (fun w => Z 55 (13 * w + 9) = 3) (Z 49 6).toNat = cntW (fun w => J 55 (13 * w + 9) = 3) (Z 49 6).toNat - 1 := by
    have := cntW_del (p := fun w => J 55 (13 * w + 9) = 3) (q := fun w => Z 55 (13 * w + 9) = 3) (v := v) ev hv.1.1 (n := (Z 49 6).toNat) (fun w a b => by
      by_cases c : w = v
      · rw [c, hv.2]; omega
      · rw [e559 w c]; exact ⟨fun x => ⟨x, c⟩, fun x => x.1⟩)
    rw [cif_t (by omega)] at this
    exact this
  obtain ⟨l1, l2, l3⟩ := ls_del hm.1 h.ew h.em h.hc h6 hv hk hh (fun w a b => by
      by_cases c : w = v
      · rw [c, ev]; omega
      · rw [e559 w c]; exact ⟨fun x => ⟨x, c⟩, fun x => x.1⟩) (fun w a b => by
      by_cases c : w = k
      · rw [c, ek]; omega
      · rw [e5512 w c]; exact ⟨fun x => ⟨x, c⟩, fun x => x.1⟩) (fun w a b => e55 w 8 (by decide) (by decide) (by decide)) z13 z15 r14 r16
  refine ⟨by rw [h6]; exact h.n, ?_, ?_, ?_, ?_, ?_, ?_, ?_, ?_, ?_, ?_, ?_, l1, l2, ?_, l3⟩
  · unfold SN; rw [e49]; exact h.sn
  · intro s s0 s1
    have := h.ss s s0 s1
    rw [h6, c2, r 51 (by decide) (by decide) (by decide) (by decide) (by omega) (by decide) (by decide), r 52 (by decide) (by decide) (by decide) (by decide) (by omega) (by decide) (by decide), r 53 (by decide) (by decide) (by decide) (by decide) (by omega) (by decide) (by decide), r 54 (by decide) (by decide) (by decide) (by decide) (by omega) (by decide) (by decide)]
    exact this
  · intro w w0 w1
    rw [h6] at w1
    have := h.sw w w0 w1
    rw [e49, e55 w 0 (by decide) (by decide) (by decide), e55 w 1 (by decide) (by decide) (by decide), e55 w 2 (by decide) (by decide) (by decide), e55 w 3 (by decide) (by decide) (by decide), e55 w 4 (by decide) (by decide) (by decide), e55 w 5 (by decide) (by decide) (by decide), e55 w 6 (by decide) (by decide) (by decide), e55 w 7 (by decide) (by decide) (by decide), e55 w 8 (by decide) (by decide) (by decide)]
    obtain ⟨t1, t2, t3, t4, t5, t6, t7, t8, t9, t10, t11⟩ := this
    refine ⟨t1, t2, t3, t4, t5, t6, t7, t8, t9, ?_, ?_⟩
    · by_cases c : w = v
      · rw [c, ev]; omega
      · rw [e559 w c]; exact t10
    · by_cases c : w = k
      · rw [c, ek]; omega
      · rw [e5512 w c]; exact t11
  · unfold SetOK; rw [r 50 (by decide) (by decide) (by decide) (by decide) (by omega) (by decide) (by decide)]; exact h.set
  · exact CSt_of h.st (fun a q ha => hr a q (by omega) (by omega) (by omega) (by omega) (by omega) (by omega) (by omega)) (r 50 (by decide) (by decide) (by decide) (by decide) (by omega) (by decide) (by decide)) (r 51 (by decide) (by decide) (by decide) (by decide) (by omega) (by decide) (by decide)) (r 52 (by decide) (by decide) (by decide) (by decide) (by omega) (by decide) (by decide)) (r 53 (by decide) (by decide) (by decide) (by decide) (by omega) (by decide) (by decide)) (r 54 (by decide) (by decide) (by decide) (by decide) (by omega) (by decide) (by decide))
  · exact CSh_of h.sh (fun a q ha => hr a q (by omega) (by omega) (by omega) (by omega) (by omega) (by omega) (by omega))
  · exact CTp_of (by rw [r 4 (by decide) (by decide) (by decide) (by decide) (by omega) (by decide) (by decide)]) (by rw [e49]) (r 5 (by decide) (by decide) (by decide) (by decide) (by omega) (by decide) (by decide)) (r 62 (by decide) (by decide) (by decide) (by decide) (by omega) (by decide) (by decide)) (r 6 (by decide) (by decide) (by decide) (by decide) (by omega) (by decide) (by decide)) h.tp
  · exact CRu_of (r 8 (by decide) (by decide) (by decide) (by decide) (by omega) (by decide) (by decide)) (r 10 (by decide) (by decide) (by decide) (by decide) (by omega) (by decide) (by decide)) (r 57 (by decide) (by decide) (by decide) (by decide) (by omega) (by decide) (by decide)) h.ru
  · intro w w0 w1
    rw [h6] at w1
    obtain ⟨⟨t0, t1, t2, t3, t4, t5, t6, t7, t8, t9, t10, t11⟩, u, x, y⟩ := h.wd w w0 w1
    have rw_ : ∀ q : Int, q ≠ 10 → J (67 + w) q = Z (67 + w) q := fun q hq => hr _ q (by omega) (by omega) (by omega) (by omega) (by omega) (by omega) (by omega)
    rw [e49, r 56 (by decide) (by decide) (by decide) (by decide) (by omega) (by decide) (by decide), r 3 (by decide) (by decide) (by decide) (by decide) (by omega) (by decide) (by decide), rw_ 0 (by decide), rw_ 1 (by decide), rw_ 2 (by decide), rw_ 3 (by decide), rw_ 4 (by decide), rw_ 5 (by decide), rw_ 6 (by decide), rw_ 7 (by decide), rw_ 8 (by decide), rw_ 9 (by decide), rw_ 11 (by decide), rw_ 12 (by decide), e55 w 0 (by decide) (by decide) (by decide), e55 w 1 (by decide) (by decide) (by decide), e55 w 2 (by decide) (by decide) (by decide), e55 w 3 (by decide) (by decide) (by decide), e55 w 4 (by decide) (by decide) (by decide), e55 w 5 (by decide) (by decide) (by decide), e55 w 6 (by decide) (by decide) (by decide), e55 w 7 (by decide) (by decide) (by decide), e55 w 8 (by decide) (by decide) (by decide), e55 w 10 (by decide) (by decide) (by decide), e55 w 11 (by decide) (by decide) (by decide)]
    by_cases c : w = v
    · rw [c, ev, e10]
      rw [c] at t0 t1 t2 t3 t4 t5 t6 t7 t8 t9 t10 x
      exact ⟨⟨t0, t1, t2, t3, t4, t5, t6, t7, t8, t9, t10, rfl⟩, fun q => by omega, fun _ => x (Or.inl hv.2), fun q => by omega⟩
    · rw [e559 w c, hr (67 + w) 10 (by omega) (by omega) (by omega) (by omega) (by omega) (by omega) (by omega)]
      exact ⟨⟨t0, t1, t2, t3, t4, t5, t6, t7, t8, t9, t10, t11⟩, u, x, y⟩
  · obtain ⟨p1, p2, p3, p4, p5, p6, p7, p8, p9, p10⟩ := h.po
    unfold CPo
    rw [e49, c2, c12, r 0 (by decide) (by decide) (by decide) (by decide) (by omega) (by decide) (by decide), e11 6 (by decide), e11 7 (by decide), e11 3 (by decide), e11 4 (by decide), e11 2 (by decide), e11 8 (by decide), e11 5 (by decide), e119]
    refine ⟨p1, p2, p3, p4, p5, p6, p7, by omega, p9, ?_⟩
    rcases p10 with ⟨a, b, c⟩ | ⟨a, b, c, d, e⟩
    · exact Or.inl ⟨a, b, fun w w0 w1 => fun x => c w w0 w1 ((h2 w 1 (Or.inl rfl)).mp x)⟩
    · refine Or.inr ⟨a, b, (h2 _ 1 (Or.inl rfl)).mpr c, fun w w0 w1 x => d w w0 w1 ((h2 w 1 (Or.inl rfl)).mp x), ?_⟩
      rw [e55 _ 10 (by decide) (by decide) (by decide), e55 _ 1 (by decide) (by decide) (by decide)]
      exact e
  · intro i i0 i1
    rw [e49] at i1
    have t := h.tu i i0 i1
    rw [e49, r 56 (by decide) (by decide) (by decide) (by decide) (by omega) (by decide) (by decide), r 17 (by decide) (by decide) (by decide) (by decide) (by omega) (by decide) (by decide), hr (67 + Z 56 i) 12 (by omega) (by omega) (by omega) (by omega) (by omega) (by omega) (by omega)]
    exact ⟨t.1, t.2.1, (or_congr (h2 _ 1 (Or.inl rfl)) (h2 _ 2 (Or.inr rfl))).mpr t.2.2.1, t.2.2.2⟩
  · have := h.z; omega
/-- the class's dropping beside the reference's -/
theorem Ivx.dropped {Z : Mm} {N b v : Int} (h : Ivx b Z N) (hb : b ≤ 25) (hv : (0 ≤ v ∧ v < Z 49 6) ∧ Z 55 (13 * v + 9) = 0) : Ivx 24 (gDrops (up (up (gDis Z (67 + v)) (67 + v) 10 3) 11 9 (Z 11 9 + 1)) v) N := by
  have hS := h.sto hb
  have hm := h.sn.1
  obtain ⟨q1, q2, q3⟩ := dis_q h hb hv
  have hf := (enm_fst h.ew hm.1 hv.1.1 hv.1.2).1 hv.2
  have b1 := cntW_b (fun w => Z 55 (13 * w + 9) = 0) v.toNat
  have b2 := cntW_b (fun w => Z 55 (13 * w + 12) = 1) (dmk Z v).toNat
  have l1 := cntW_lt (p := fun w => Z 55 (13 * w + 9) = 0) (n := (Z 49 6).toNat) hv.1.1 (by omega) hv.2
  have l2 := cntW_lt (p := fun w => Z 55 (13 * w + 12) = 1) (n := (Z 49 6).toNat) q1.1.1 (by omega) q1.2
  have z1 := h.ew.1
  have z2 := h.em.1
  have eD1 : gDis1 Z (67 + v) = rmC Z 13 14 (cntW (fun w => Z 55 (13 * w + 9) = 0) v.toNat) := by unfold gDis1; rw [hf]
  have eD : gDis Z (67 + v) = rmC (rmC Z 13 14 (cntW (fun w => Z 55 (13 * w + 9) = 0) v.toNat)) 15 16 (cntW (fun w => Z 55 (13 * w + 12) = 1) (dmk Z v).toNat) := by
    unfold gDis
    rw [gDisQ_1 hS (by omega), q3, eD1]
  have eM : ∀ q : Int, gDis Z (67 + v) 55 q = Z 55 q := fun q => gDis_n (by decide) q
  have ek : dmk (up (up (up (gDis Z (67 + v)) (67 + v) 10 3) 11 9 (Z 11 9 + 1)) 55 (13 * v + 9) 3) v = dmk Z v := by
    rw [dmk_9]
    unfold dmk
    simp only [up_c (I := up (gDis Z (67 + v)) (67 + v) 10 3) (a := 11) (a' := 55) (show (55 : Int) ≠ 11 by decide), up_c (I := gDis Z (67 + v)) (a := 67 + v) (a' := 55) (show (55 : Int) ≠ 67 + v by omega), up_c (I := up (gDis Z (67 + v)) (67 + v) 10 3) (a := 11) (a' := 49) (show (49 : Int) ≠ 11 by decide), up_c (I := gDis Z (67 + v)) (a := 67 + v) (a' := 49) (show (49 : Int) ≠ 67 + v by omega), eM, gDis_n (I := Z) (w := 67 + v) (show (49 : Int) ≠ 13 ∧ (49 : Int) ≠ 14 ∧ (49 : Int) ≠ 15 ∧ (49 : Int) ≠ 16 by decide)]
  unfold gDrops
  rw [ek]
  generalize hk : dmk Z v = k at *
  have c13 : ∀ q : Int, gDis Z (67 + v) 13 q = rmC Z 13 14 (cntW (fun w => Z 55 (13 * w + 9) = 0) v.toNat) 13 q := fun q => by rw [eD, rmC_n (by decide) (by decide)]
  have c14 : ∀ q : Int, gDis Z (67 + v) 14 q = rmC Z 13 14 (cntW (fun w => Z 55 (13 * w + 9) = 0) v.toNat) 14 q := fun q => by rw [eD, rmC_n (by decide) (by decide)]
  have d15 : ∀ q : Int, rmC Z 13 14 (cntW (fun w => Z 55 (13 * w + 9) = 0) v.toNat) 15 q = Z 15 q := fun q => rmC_n (by decide) (by decide) q
  have d16 : ∀ q : Int, rmC Z 13 14 (cntW (fun w => Z 55 (13 * w + 9) = 0) v.toNat) 16 q = Z 16 q := fun q => rmC_n (by decide) (by decide) q
  have z13 : gDis Z (67 + v) 13 1 = Z 13 1 - 1 := by rw [c13, rmC_sz (by decide), cif_t (by omega)]
  have z15 : gDis Z (67 + v) 15 1 = Z 15 1 - 1 := by rw [eD, rmC_sz (by decide), d15, cif_t (by omega)]
  refine h.drp (v := v) (k := k) hb hv q1 q2 (fun a q h1 h2 h3 h4 h5 h6 h7 => ?_) ?_ ?_ ?_ ?_ ?_ ?_ (fun j j0 j1 => ?_) (fun j j0 j1 => ?_)
  · rw [up_n (by omega), up_n (by omega), up_n (by omega), up_n (by omega), gDis_n ⟨h1, h2, h3, h4⟩]
  · rw [up_c (by omega), up_c (by omega), up_c (by omega), up_s]
  · rw [up_c (by decide), up_c (by decide), up_s]
  · rw [up_k (by omega), up_s]
  · rw [up_s]
  · rw [up_c (by decide), up_c (by decide), up_c (by decide), up_c (by omega), z13]
  · rw [up_c (by decide), up_c (by decide), up_c (by decide), up_c (by omega), z15]
  · rw [up_c (by decide), up_c (by decide), up_c (by decide), up_c (by omega), c14, rmC_at (by decide) j0 (by rw [← c13, z13]; exact j1)]
    exact cif_iff ⟨fun x => x.2.2, fun x => ⟨by omega, by omega, x⟩⟩
  · rw [up_c (by decide), up_c (by decide), up_c (by decide), up_c (by omega), eD, rmC_at (by decide) j0 (by rw [← eD, z15]; exact j1), d15, d16, d16]
    exact cif_iff ⟨fun x => x.2.2, fun x => ⟨by omega, by omega, x⟩⟩
