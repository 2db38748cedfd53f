/-! ===== the invariant without the bounds of the machine, a line of at most b ===== -/
def CHc (I : Mm) : Prop := ∀ h : Int, cntW (fun w => I 55 (13 * w + 12) = 1 ∧ I 55 (13 * w + 8) = h) (I 49 6).toNat = cntW (fun w => I 55 (13 * w + 9) = 0 ∧ I 55 (13 * w + 8) = h) (I 49 6).toNat
def Ivx (b : Int) (I : Mm) (N : Int) : Prop := N = 67 + I 49 6 ∧ SN I ∧ SS I ∧ SW I ∧ SetOK I ∧ CSt I ∧ CSh I ∧ CTp I ∧ CRu I ∧ CWd I ∧ CPo I ∧ CTu I ∧ EW I ∧ EM I ∧ I 13 1 ≤ b ∧ CHc I
section IX
variable {I : Mm} {N b : Int}
theorem Ivx.n (h : Ivx b I N) : N = 67 + I 49 6 := h.1
theorem Ivx.sn (h : Ivx b I N) : SN I := h.2.1
theorem Ivx.ss (h : Ivx b I N) : SS I := h.2.2.1
theorem Ivx.sw (h : Ivx b I N) : SW I := h.2.2.2.1
theorem Ivx.set (h : Ivx b I N) : SetOK I := h.2.2.2.2.1
theorem Ivx.st (h : Ivx b I N) : CSt I := h.2.2.2.2.2.1
theorem Ivx.sh (h : Ivx b I N) : CSh I := h.2.2.2.2.2.2.1
theorem Ivx.tp (h : Ivx b I N) : CTp I := h.2.2.2.2.2.2.2.1
theorem Ivx.ru (h : Ivx b I N) : CRu I := h.2.2.2.2.2.2.2.2.1
theorem Ivx.wd (h : Ivx b I N) : CWd I := h.2.2.2.2.2.2.2.2.2.1
theorem Ivx.po (h : Ivx b I N) : CPo I := h.2.2.2.2.2.2.2.2.2.2.1
theorem Ivx.tu (h : Ivx b I N) : CTu I := h.2.2.2.2.2.2.2.2.2.2.2.1
theorem Ivx.ew (h : Ivx b I N) : EW I := h.2.2.2.2.2.2.2.2.2.2.2.2.1
theorem Ivx.em (h : Ivx b I N) : EM I := h.2.2.2.2.2.2.2.2.2.2.2.2.2.1
theorem Ivx.z (h : Ivx b I N) : I 13 1 ≤ b := h.2.2.2.2.2.2.2.2.2.2.2.2.2.2.1
theorem Ivx.hc (h : Ivx b I N) : CHc I := h.2.2.2.2.2.2.2.2.2.2.2.2.2.2.2
theorem Inv.ix (h : Inv I N) : Ivx 24 I N := ⟨h.n, h.sn, h.ss, h.sw, h.set, h.st, h.sh, h.tp, h.ru, h.wd, h.po, h.tu, h.li.1, h.li.2.1, h.li.2.2.1, h.li.2.2.2⟩
theorem Ivx.inv (h : Ivx 24 I N) (hF : Fx I) : Inv I N := ⟨h.n, hF, h.sn, h.ss, h.sw, h.set, h.st, h.sh, h.tp, h.ru, h.wd, h.po, h.tu, h.ew, h.em, h.z, h.hc⟩
theorem Ivx.wr (h : Ivx b I N) : CWr I := fun w a b => by
  obtain ⟨-, e0, e1, e2, e3, e4, e5, e6, e7, e8, e9, -⟩ := (h.wd w a b).1
  exact ⟨e0, e1, e2, e3, e4, e5, e6, e7, e8, e9⟩
theorem Ivx.hou (h : Ivx b I N) {w : Int} (h0 : 0 ≤ w) (h1 : w < I 49 6) : 0 ≤ I 55 (13 * w + 8) ∧ I 55 (13 * w + 8) ≤ 3 := (h.sw w h0 h1).2.2.2.2.2.2.2.2.1
theorem Ivx.sz (h : Ivx b I N) : I 15 1 = I 13 1 := by
  have hm := h.sn.1
  have h4 := h.hc
  rw [h.ew.1, h.em.1]
  have hh : ∀ w : Int, 0 ≤ w → w < ((I 49 6).toNat : Int) → 0 ≤ I 55 (13 * w + 8) ∧ I 55 (13 * w + 8) ≤ 3 := fun w a b => h.hou a (by omega)
  rw [cnt4 (p := fun w => I 55 (13 * w + 12) = 1) (f := fun w => I 55 (13 * w + 8)) hh, cnt4 (p := fun w => I 55 (13 * w + 9) = 0) (f := fun w => I 55 (13 * w + 8)) hh]
  have a0 := h4 0
  have a1 := h4 1
  have a2 := h4 2
  have a3 := h4 3

  omega
theorem Ivx.sto (h : Ivx b I N) (hb : b ≤ 25) : StoC I N := by
  have hm := h.sn.1
  have hn := h.n
  have hz := h.sz
  have h1 := h.ew
  have h2 := h.em
  have h3 := h.z
  have b1 := cntW_b (fun w => I 55 (13 * w + 9) = 0) (I 49 6).toNat
  have e1 := h1.1
  refine ⟨⟨by omega, fun i i0 i1 => ?_⟩, ⟨by omega, fun i i0 i1 => ?_⟩, fun i i0 i1 => ?_, fun i i0 i1 => ?_⟩
  · obtain ⟨w, a, b, -, -, e⟩ := h1.at hm.1 i0 i1
    rw [e]; omega
  · obtain ⟨w, a, b, -, -, e⟩ := h2.at hm.1 i0 i1
    rw [e]; omega
  · obtain ⟨w, a, b, -, -, e⟩ := h1.at hm.1 i0 i1
    have := h.hou a b
    rw [e, (h.wd w a b).1.2.2.2.1]; exact this
  · obtain ⟨w, a, b, -, -, e⟩ := h2.at hm.1 i0 i1
    have := h.hou a b
    rw [e, (h.wd w a b).1.2.2.2.1]; exact this
theorem Ivx.goc (h : Ivx b I N) (hb : b ≤ 25) : GoC I N := by
  have hm := h.sn.1
  have hn := h.n
  have h7 := h.sn.2.1
  obtain ⟨p1, p2, p3, p4, p5, p6, p7, p8, p9, p10⟩ := h.po
  have b1 := cntW_b (fun w => I 55 (13 * w + 9) = 2) (I 49 6).toNat
  have b2 := cntW_b (fun w => I 55 (13 * w + 9) = 1 ∨ I 55 (13 * w + 9) = 2) (I 49 6).toNat
  refine ⟨h.sto hb, ?_, by omega, by omega, by omega, fun w w0 w1 => ?_⟩
  · rcases p10 with ⟨a, b, -⟩ | ⟨a, b, c, d, e⟩
    · exact Or.inl b
    · refine Or.inr ⟨by omega, by omega, ?_⟩
      have hw := (h.wd (I 49 9) a.1 a.2).2.1 (Or.inl c)
      rw [b, hw.1]; omega
  · obtain ⟨v, rfl⟩ : ∃ v : Int, w = 67 + v := ⟨w - 67, by omega⟩
    have e := (h.wd v (by omega) (by omega)).1.2.2.2.2.2.1
    have := (h.sw v (by omega) (by omega)).2.1
    rw [e]; omega
theorem Ivx.tik (h : Ivx b I N) (hb : b ≤ 25) : TikC I N := by
  have hm := h.sn.1
  have hn := h.n
  refine ⟨h.goc hb, fun w w0 w1 => ?_, fun s s0 s1 => ?_⟩
  · obtain ⟨v, rfl⟩ : ∃ v : Int, w = 67 + v := ⟨w - 67, by omega⟩
    have e := (h.wd v (by omega) (by omega)).1
    have := h.sw v (by omega) (by omega)
    rw [e.2.2.1, e.2.2.2.2.2.1]; omega
  · have e := h.st s s0 s1
    have := h.ss s s0 s1
    have b1 := cntW_b (fun w => I 55 (13 * w + 9) = 2) (I 49 6).toNat
    rw [e.2.2.2.2]; omega
theorem Ivx.wel (h : Ivx 24 I N) : WelC I N := by
  have hm := h.sn
  have hm6 := hm.1
  have hn := h.n
  have hz := h.sz
  have h13 := h.z
  have hpo := h.po
  have b1 := cntW_b (fun w => I 55 (13 * w + 9) = 3) (I 49 6).toNat
  have e3 := hpo.2.2.2.2.2.2.2.1
  refine ⟨h.sto (by decide), by omega, ?_, ?_, ?_, ?_, by omega, fun s s0 s1 => ?_⟩
  · rw [hpo.1]; exact hn
  · rw [hpo.1]; exact hm.1
  · rw [hpo.2.1]; exact hm.2.1
  · rw [hpo.2.2.1]; have := hm.2.2.1; omega
  · have e := h.st s s0 s1
    have f := h.ss s s0 s1
    have t1 := h.set s 1 s0 s1 (by decide) (by decide)
    have t2 := h.set s 2 s0 s1 (by decide) (by decide)
    have t3 := h.set s 3 s0 s1 (by decide) (by decide)
    have t4 := h.set s 4 s0 s1 (by decide) (by decide)
    have t0 := h.set s 0 s0 s1 (by decide) (by decide)
    unfold okSet at t0 t1 t2 t3 t4
    have m1 := hm.1
    rw [e.2.1, e.2.2.1, e.2.2.2.1, e.1 1 (by decide) (by decide), e.1 2 (by decide) (by decide), e.1 3 (by decide) (by decide), e.1 4 (by decide) (by decide)]
    omega
end IX
/-! ===== a word leaves the store, a mark of its house with it ===== -/
theorem ls_del {Z J : Mm} {v k : Int} (hm : 0 ≤ Z 49 6) (hE : EW Z) (hK : EM Z) (hC : CHc Z) (h6 : J 49 6 = Z 49 6) (hv : (0 ≤ v ∧ v < Z 49 6) ∧ Z 55 (13 * v + 9) = 0) (hk : (0 ≤ k ∧ k < Z 49 6) ∧ Z 55 (13 * k + 12) = 1) (hh : Z 55 (13 * k + 8) = Z 55 (13 * v + 8))
    (e9 : ∀ w : Int, 0 ≤ w → w < Z 49 6 → (J 55 (13 * w + 9) = 0 ↔ Z 55 (13 * w + 9) = 0 ∧ w ≠ v)) (e12 : ∀ w : Int, 0 ≤ w → w < Z 49 6 → (J 55 (13 * w + 12) = 1 ↔ Z 55 (13 * w + 12) = 1 ∧ w ≠ k)) (e8 : ∀ w : Int, 0 ≤ w → w < Z 49 6 → J 55 (13 * w + 8) = Z 55 (13 * w + 8))
    (z13 : J 13 1 = Z 13 1 - 1) (z15 : J 15 1 = Z 15 1 - 1) (r14 : ∀ j : Int, 0 ≤ j → j < Z 13 1 - 1 → J 14 j = cif (cntW (fun w => Z 55 (13 * w + 9) = 0) v.toNat ≤ j) (Z 14 (j + 1)) (Z 14 j)) (r16 : ∀ j : Int, 0 ≤ j → j < Z 15 1 - 1 → J 16 j = cif (cntW (fun w => Z 55 (13 * w + 12) = 1) k.toNat ≤ j) (Z 16 (j + 1)) (Z 16 j)) : EW J ∧ EM J ∧ CHc J := by
  refine ⟨?_, ?_, fun h => ?_⟩
  · unfold EW
    rw [h6, z13]
    exact enm_del hE hv.2 hv.1.1 hv.1.2 e9 r14
  · unfold EM
    rw [h6, z15]
    exact enm_del hK hk.2 hk.1.1 hk.1.2 e12 r16
  · rw [h6]
    have hCh := hC h
    by_cases c : Z 55 (13 * v + 8) = h
    · have d1 := cntW_del (p := fun w => Z 55 (13 * w + 12) = 1 ∧ Z 55 (13 * w + 8) = h) (q := fun w => J 55 (13 * w + 12) = 1 ∧ J 55 (13 * w + 8) = h) (v := k) ⟨hk.2, by rw [hh]; exact c⟩ hk.1.1 (n := (Z 49 6).toNat) (fun w a b => by
        rw [e12 w a (by omega), e8 w a (by omega)]
        exact ⟨fun x => ⟨⟨x.1.1, x.2⟩, x.1.2⟩, fun x => ⟨⟨x.1.1, x.2⟩, x.1.2⟩⟩)
      have d2 := cntW_del (p := fun w => Z 55 (13 * w + 9) = 0 ∧ Z 55 (13 * w + 8) = h) (q := fun w => J 55 (13 * w + 9) = 0 ∧ J 55 (13 * w + 8) = h) (v := v) ⟨hv.2, c⟩ hv.1.1 (n := (Z 49 6).toNat) (fun w a b => by
        rw [e9 w a (by omega), e8 w a (by omega)]
        exact ⟨fun x => ⟨⟨x.1.1, x.2⟩, x.1.2⟩, fun x => ⟨⟨x.1.1, x.2⟩, x.1.2⟩⟩)
      rw [cif_t (by omega)] at d1 d2
      rw [d1, d2, hCh]
    · rw [cntW_c (p := fun w => J 55 (13 * w + 12) = 1 ∧ J 55 (13 * w + 8) = h) (q := fun w => Z 55 (13 * w + 12) = 1 ∧ Z 55 (13 * w + 8) = h) (fun w a b => by
          rw [e12 w a (by omega), e8 w a (by omega)]
          exact ⟨fun x => ⟨x.1.1, x.2⟩, fun x => ⟨⟨x.1, fun y => c (by rw [← hh, ← y]; exact x.2)⟩, x.2⟩⟩),
        cntW_c (p := fun w => J 55 (13 * w + 9) = 0 ∧ J 55 (13 * w + 8) = h) (q := fun w => Z 55 (13 * w + 9) = 0 ∧ Z 55 (13 * w + 8) = h) (fun w a b => by
          rw [e9 w a (by omega), e8 w a (by omega)]
          exact ⟨fun x => ⟨x.1.1, x.2⟩, fun x => ⟨⟨x.1, fun y => c (by rw [← y]; exact x.2)⟩, x.2⟩⟩)]
      exact hCh
/-- the last mark, from a start -/
theorem lst_from (p : Int → Prop) (a : Int) : ∀ n : Nat, fld (fun m k => cif (p k) k m) a n = cif (lstW p n = -4) a (lstW p n)
  | 0 => by
    have : lstW p 0 = -4 := rfl
    rw [cif_t this]; rfl
  | n + 1 => by
    have e1 : lstW p (n + 1) = cif (p n) (n : Int) (lstW p n) := rfl
    have e2 : fld (fun m k => cif (p k) k m) a (n + 1) = cif (p n) (n : Int) (fld (fun m k => cif (p k) k m) a n) := rfl
    rw [e1, e2, lst_from p a n]
    by_cases c : p n
    · rw [cif_t c, cif_t c, cif_f (by omega)]
    · rw [cif_f c, cif_f c]
/-- the mark that goes with a dropped word: in both the same -/
theorem dis_q {Z : Mm} {N b v : Int} (h : Ivx b Z N) (hb : b ≤ 25) (hv : (0 ≤ v ∧ v < Z 49 6) ∧ Z 55 (13 * v + 9) = 0) : ((0 ≤ dmk Z v ∧ dmk Z v < Z 49 6) ∧ Z 55 (13 * dmk Z v + 12) = 1) ∧ Z 55 (13 * dmk Z v + 8) = Z 55 (13 * v + 8) ∧ gDisQ Z (67 + v) = cntW (fun w => Z 55 (13 * w + 12) = 1) (dmk Z v).toNat := by
  have hm := h.sn.1
  have hf := enm_fst h.em hm.1 hv.1.1 hv.1.2
  have h12 := (h.sw v hv.1.1 hv.1.2).2.2.2.2.2.2.2.2.2.2
  have e2 := (h.wd v hv.1.1 hv.1.2).1.2.2.2.1
  by_cases c : Z 55 (13 * v + 12) = 0
  · have c1 : ¬ Z 55 (13 * v + 12) = 1 := by omega
    have ef := hf.2 c1
    have ed : dmk Z v = cif (lstW (fun k => Z 55 (13 * k + 12) = 1 ∧ Z 55 (13 * k + 8) = Z 55 (13 * v + 8)) (Z 49 6).toNat = -4) v (lstW (fun k => Z 55 (13 * k + 12) = 1 ∧ Z 55 (13 * k + 8) = Z 55 (13 * v + 8)) (Z 49 6).toNat) := by
      unfold dmk
      rw [cif_t c, lst_from]
    have eq : gDisQ Z (67 + v) = laM Z (Z 55 (13 * v + 8)) := by
      unfold gDisQ
      rw [ef, cif_f (by decide), e2]
    have key := enm_lst h.em hm.1 (q := fun c => Z c 2 = Z 55 (13 * v + 8)) (r := fun w => Z 55 (13 * w + 8) = Z 55 (13 * v + 8)) (fun w a b _ => by rw [(h.wr w a b).2.2.1])
    have hpos : 0 < cntW (fun w => Z 55 (13 * w + 12) = 1 ∧ Z 55 (13 * w + 8) = Z 55 (13 * v + 8)) (Z 49 6).toNat := by
      rw [h.hc (Z 55 (13 * v + 8))]
      exact cntW_pos.mpr ⟨v, hv.1.1, by omega, hv.2, rfl⟩
    obtain ⟨u, u0, u1, u2⟩ := cntW_pos.mp hpos
    rcases key with ⟨a, b⟩ | ⟨a, b, d, e⟩
    · exfalso
      rcases lstW_r (fun w => Z 55 (13 * w + 12) = 1 ∧ Z 55 (13 * w + 8) = Z 55 (13 * v + 8)) (Z 49 6).toNat with ⟨-, r⟩ | ⟨r, -⟩
      · exact r ⟨u, u0, u1, u2⟩
      · omega
    · rw [cif_f (by omega)] at ed
      rw [ed, eq]
      exact ⟨⟨b, d⟩, e, a⟩
  · have c1 : Z 55 (13 * v + 12) = 1 := by omega
    have ef := hf.1 c1
    have hcb := cntW_b (fun w => Z 55 (13 * w + 12) = 1) v.toNat
    have ed : dmk Z v = v := by
      unfold dmk
      rw [cif_f c]
    have eq : gDisQ Z (67 + v) = cntW (fun w => Z 55 (13 * w + 12) = 1) v.toNat := by
      unfold gDisQ
      rw [ef, cif_t (by omega)]
    rw [ed, eq]
    exact ⟨⟨hv.1, c1⟩, rfl, rfl⟩
