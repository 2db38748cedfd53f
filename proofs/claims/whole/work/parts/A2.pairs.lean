/-! ===== a call of the class and the same call of the reference ===== -/
/-- the reference's cells are the same -/
def Smd (J I : Mm) : Prop := ∀ a q : Int, 49 ≤ a ∧ a ≤ 66 → J a q = I a q
theorem Smd.row {J I : Mm} (h : Smd J I) {a : Int} (ha : 49 ≤ a ∧ a ≤ 66) : J a = I a := funext fun q => h a q ha
theorem MdC_of {J I : Mm} (h : Smd J I) (hM : MdC I) : MdC J := by
  obtain ⟨h1, h2, h3, h4⟩ := hM
  have e49 := h.row (a := 49) (by decide)
  have e50 := h.row (a := 50) (by decide)
  have e51 := h.row (a := 51) (by decide)
  have e52 := h.row (a := 52) (by decide)
  have e53 := h.row (a := 53) (by decide)
  have e54 := h.row (a := 54) (by decide)
  have e55 := h.row (a := 55) (by decide)
  refine ⟨?_, ?_, ?_, ?_⟩
  · unfold SN; rw [e49]; exact h1
  · unfold SS; rw [e49, e51, e52, e53, e54, e55]; exact h2
  · unfold SW; rw [e49, e55]; exact h3
  · unfold SetOK; rw [e50]; exact h4
theorem Inv.md {I : Mm} {N : Int} (h : Inv I N) : MdC I := ⟨h.sn, h.ss, h.sw, h.set⟩
theorem Inv.s0 {I J : Mm} {N : Int} (h : Inv I N) (e : ∀ q : Int, J 59 q = I 59 q) (q : Int) (a : 0 ≤ q) (b : q ≤ 3) : 0 ≤ J 59 q ∧ J 59 q ≤ 24 := by
  rw [e]; exact (h.sh q a b).2.2.1
theorem kItem_m (I : Mm) (s lane i v : Int) : Smd (kItem I s lane i v) I := fun a q ha => by
  unfold kItem
  by_cases c : (0 ≤ s ∧ s ≤ 3) ∧ (0 ≤ lane ∧ lane ≤ 2) ∧ wrF I s lane i 1 = 1
  · rw [cif_t c, up_c (by omega)]
  · rw [cif_f c]
theorem kCopy_m (I : Mm) (f i t j n : Int) : Smd (kCopy I f i t j n) I := fun a q ha => by
  unfold kCopy
  by_cases c : okCopy I f i t j n
  · rw [cif_t c, upR_q (by have := c.1; omega)]
  · rw [cif_f c]
theorem gAppN_m (I : Mm) (w n : Int) : ∀ j : Nat, Smd (gAppN I w n j) I
  | 0, a, q, _ => rfl
  | j + 1, a, q, ha => by
    have e : gAppN I w n (j + 1) = up (up (gAppN I w n j) 5 (I 4 1 + j) (bt w (n - 1 - j))) 4 1 (I 4 1 + j + 1) := rfl
    rw [e, up_c (by omega), up_c (by omega)]
    exact gAppN_m I w n j a q ha
theorem kType_m (I : Mm) (w n : Int) : Smd (kType I w n) I := fun a q ha => by
  unfold kType
  by_cases c : (1 ≤ n ∧ n ≤ 8) ∧ okB w n ∧ I 49 20 + n ≤ 40
  · rw [cif_t c]; exact gAppN_m I w n _ a q ha
  · rw [cif_f c]
theorem kRule_m {I K : Mm} {q : Int} (h : kRuleR I q K) : Smd K I := fun a k ha => by
  by_cases c : 0 ≤ q ∧ q ≤ 1
  · exact (h.2 c).2.2.2 a k (by omega) (by omega) (by omega)
  · rw [h.1 c]
/-! come -/
theorem come_1 {I I1 : Mm} {N N1 s ln r : Int} (hI : Inv I N) (h : Fx I1 ∧ (¬ ((0 ≤ s ∧ s ≤ 7) ∧ (1 ≤ ln ∧ ln ≤ 99)) → r = -1 ∧ N1 = N ∧ I1 = I) ∧ (((0 ≤ s ∧ s ≤ 7) ∧ (1 ≤ ln ∧ ln ≤ 99)) → I 0 3 = 1000 → r = -3 ∧ N1 = N ∧ I1 = I) ∧ (((0 ≤ s ∧ s ≤ 7) ∧ (1 ≤ ln ∧ ln ≤ 99)) → I 0 3 < 1000 → r = I 0 3 ∧ N1 = N + 1 ∧ WelR I N s ln I1)) :
    MdC I1 ∧ 67 ≤ N1 ∧ r = aCome I1 s ln ∧ (Fx (gCome I1 s ln) → Inv (gCome I1 s ln) N1) := by
  obtain ⟨hF, h1, h2, h3⟩ := h
  have hb := hI.nb
  have p1 := hI.po.1
  have hm := hI.sn.1
  by_cases c : (0 ≤ s ∧ s ≤ 7) ∧ (1 ≤ ln ∧ ln ≤ 99)
  · by_cases e : I 0 3 = 1000
    · obtain ⟨rfl, rfl, rfl⟩ := h2 c e
      have eg : gCome I1 s ln = I1 := by unfold gCome; rw [cif_f (by omega)]
      refine ⟨hI.md, hb.1, by unfold aCome; rw [cif_t c.1, cif_t c.2, cif_t (by omega)], fun _ => by rw [eg]; exact hI⟩
    · obtain ⟨er, rfl, hw⟩ := h3 c (by omega)
      obtain ⟨k1, k2⟩ := hI.ix.come (by omega) c.1 c.2 hw
      have e6 := k2 49 6 (by decide)
      have eg : gCome I1 s ln = gComes I1 s ln := by unfold gCome; rw [cif_t ⟨c.1, c.2, by omega⟩]
      refine ⟨MdC_of k2 hI.md, by omega, by unfold aCome; rw [cif_t c.1, cif_t c.2, cif_f (by omega)]; omega, fun hF2 => ?_⟩
      rw [eg] at hF2 ⊢
      exact k1.inv hF2
  · obtain ⟨rfl, rfl, rfl⟩ := h1 c
    have eg : gCome I1 s ln = I1 := by unfold gCome; rw [cif_f (fun x => c ⟨x.1, x.2.1⟩)]
    refine ⟨hI.md, hb.1, ?_, fun _ => by rw [eg]; exact hI⟩
    unfold aCome
    by_cases c1 : 0 ≤ s ∧ s ≤ 7
    · rw [cif_t c1, cif_f (fun x => c ⟨c1, x⟩)]
    · rw [cif_f c1]
/-! comes -/
theorem gComes_fr (I : Mm) (s ln : Int) {a q : Int} (ha : 58 ≤ a ∧ a ≤ 60) : gComes I s ln a q = I a q := by
  have h : gNew I s ln a q = I a q := gNew_fr I s ln (by omega)
  unfold gComes
  by_cases c : I 49 12 < cntW (fun w => gNew I s ln 55 (13 * w + 9) = 0) (I 49 6 + 1).toNat
  · rw [cif_t c]
    unfold gDrops
    rw [up_c (by omega), up_c (by omega)]; exact h
  · rw [cif_f c]; exact h
theorem gComesN_s (I : Mm) (s i : Int) {k : Int} (h : 0 ≤ k) : gComesN I s i (k + 1).toNat = gComes (gComesN I s i k.toNat) (I 60 (24 * s + (i + 2 * k))) (I 60 (24 * s + (i + 2 * k + 1))) := fld_s _ _ h
theorem mx_gComesN (M G : Mm) (s i : Int) : ∀ n : Nat, gComesN (mix M G) s i n = mix M (gComesN G s i n)
  | 0 => rfl
  | n + 1 => by
    have e : ∀ K : Mm, gComesN K s i (n + 1) = gComes (gComesN K s i n) (K 60 (24 * s + (i + 2 * (n : Int)))) (K 60 (24 * s + (i + 2 * (n : Int) + 1))) := fun _ => rfl
    rw [e, e, mx_gComesN M G s i n, mg60, mg60, mx_gComes]
def cmP (I : Mm) (N s i : Int) (k : Int) (M : Mm) : Prop := 0 ≤ k ∧ Ivx 24 (mix M (gComesN I s i k.toNat)) (N + k) ∧ Smd M I ∧ ∀ a q : Int, 58 ≤ a ∧ a ≤ 60 → gComesN I s i k.toNat a q = I a q
theorem cmP_0 {I : Mm} {N s i : Int} (hI : Inv I N) : cmP I N s i 0 I := by
  refine ⟨Int.le_refl _, ?_, fun a q _ => rfl, fun a q _ => rfl⟩
  have e : gComesN I s i (0 : Int).toNat = I := rfl
  rw [e, mix_i, Int.add_zero]
  exact hI.ix
theorem WelC_m {M G : Mm} {N : Int} (h : WelC (mix M G) N) : WelC M N := by
  obtain ⟨h1, h2, h3, h4, h5, h6, h7, h8⟩ := h
  rw [mm13, mm15] at h2
  rw [mm0] at h3 h4
  rw [mm11] at h5 h6 h7
  refine ⟨StoC_of h1 (Int.le_refl _) (fun c q hc => by rw [mix_m (by omega)]), h2, h3, h4, h5, h6, h7, fun s s0 s1 => ?_⟩
  have := h8 s s0 s1
  rw [mix_m (a := 25 + 2 * s) (by omega), mix_m (a := 25 + 2 * s) (by omega), mix_m (a := 25 + 2 * s) (by omega), mix_m (a := 26 + 2 * s) (by omega), mix_m (a := 26 + 2 * s) (by omega), mix_m (a := 26 + 2 * s) (by omega), mix_m (a := 26 + 2 * s) (by omega)] at this
  exact this
theorem cmP_b {I : Mm} {N s i : Int} (hI : Inv I N) (k : Int) (M : Mm) (h : cmP I N s i k M) : WelC M (N + k) ∧ M 0 3 = I 0 3 + k ∧ CSh M ∧ ∀ q : Int, M 60 q = I 60 q := by
  obtain ⟨h0, h1, h2, h3⟩ := h
  have e1 := h1.po.1
  have e2 := h1.n
  rw [mm0, mg49] at e1
  rw [mg49] at e2
  have hn := hI.n
  have p1 := hI.po.1
  refine ⟨WelC_m h1.wel, by omega, ?_, fun q => h2 60 q (by decide)⟩
  refine CSh_of h1.sh (fun a q ha => ?_)
  rcases (show a ≤ 48 ∨ 58 ≤ a by omega) with c | c
  · rw [mix_m (by omega)]
  · rw [mix_g (by omega), h3 a q (by omega), h2 a q (by omega)]
theorem cmP_s {I : Mm} {N s i : Int} (hI : Inv I N) (k : Int) (M J : Mm) (h : cmP I N s i k M) (hm : M 0 3 < 1000) (hs : 0 ≤ I 60 (24 * s + (i + 2 * k)) ∧ I 60 (24 * s + (i + 2 * k)) ≤ 7) (hl : 1 ≤ I 60 (24 * s + (i + 2 * k + 1)) ∧ I 60 (24 * s + (i + 2 * k + 1)) ≤ 99) (hw : WelR M (N + k) (I 60 (24 * s + (i + 2 * k))) (I 60 (24 * s + (i + 2 * k + 1))) J) : cmP I N s i (k + 1) J := by
  obtain ⟨h0, h1, h2, h3⟩ := h
  have e1 := h1.po.1
  rw [mm0, mg49] at e1
  obtain ⟨k1, k2⟩ := h1.comeG (by omega) hs hl hw
  refine ⟨by omega, ?_, fun a q ha => by rw [k2 a q ha]; exact h2 a q ha, fun a q ha => ?_⟩
  · rw [gComesN_s I s i h0, show N + (k + 1) = N + k + 1 by omega]; exact k1
  · rw [gComesN_s I s i h0, gComes_fr _ _ _ ha]; exact h3 a q ha
theorem comes_1 {I I1 : Mm} {N N1 s lane i n r : Int} (hI : Inv I N) (h : r = aComes I s lane i n ∧ Fx I1 ∧ (¬ (((0 ≤ s ∧ s ≤ 3) ∧ (0 ≤ lane ∧ lane ≤ 2) ∧ (0 ≤ n ∧ n ≤ 12)) ∧ wrF I s lane i (2 * n) = 1 ∧ okPairs I s i n ∧ I 49 6 + n ≤ 1000) → N1 = N ∧ I1 = I) ∧ (((0 ≤ s ∧ s ≤ 3) ∧ (0 ≤ lane ∧ lane ≤ 2) ∧ (0 ≤ n ∧ n ≤ 12)) ∧ wrF I s lane i (2 * n) = 1 ∧ okPairs I s i n ∧ I 49 6 + n ≤ 1000 → N1 = N + n ∧ cmP I N s i n I1)) :
    MdC I1 ∧ 67 ≤ N1 ∧ (∀ q : Int, I1 59 q = I 59 q) ∧ r = aComes I1 s lane i n ∧ (Fx (gComes2 I1 s lane i n) → Inv (gComes2 I1 s lane i n) N1) := by
  obtain ⟨er, hF, h1, h2⟩ := h
  have hb := hI.nb
  by_cases c : ((0 ≤ s ∧ s ≤ 3) ∧ (0 ≤ lane ∧ lane ≤ 2) ∧ (0 ≤ n ∧ n ≤ 12)) ∧ wrF I s lane i (2 * n) = 1 ∧ okPairs I s i n ∧ I 49 6 + n ≤ 1000
  · obtain ⟨rfl, c0, c1, c2, c3⟩ := h2 c
    have e49 := c2.row (a := 49) (by decide)
    have e58 := c2.row (a := 58) (by decide)
    have e59 := c2.row (a := 59) (by decide)
    have e60 := c2.row (a := 60) (by decide)
    have ea : aComes I1 s lane i n = aComes I s lane i n := by
      unfold aComes okPairs wrF
      rw [e49, e58, e59, e60]
    have eg : gComes2 I1 s lane i n = mix I1 (gComesN I s i n.toNat) := by
      unfold gComes2
      rw [cif_t (by unfold okPairs wrF; rw [e49, e58, e59, e60]; exact c)]
      have := mx_gComesN I1 I s i n.toNat
      rw [← mod_mix c2] at this
      exact this
    refine ⟨MdC_of c2 hI.md, by omega, fun q => by rw [e59], by rw [ea]; exact er, fun hF2 => ?_⟩
    rw [eg] at hF2 ⊢
    exact c1.inv hF2
  · obtain ⟨rfl, rfl⟩ := h1 c
    have eg : gComes2 I1 s lane i n = I1 := by unfold gComes2; rw [cif_f c]
    exact ⟨hI.md, hb.1, fun q => rfl, er, fun _ => by rw [eg]; exact hI⟩
/-! ticks -/
theorem gTicks_a (X : Mm) (j : Nat) : ∀ n : Nat, gTicksN (gTicksN X j) n = gTicksN X (j + n)
  | 0 => rfl
  | n + 1 => by rw [gTicks_s, gTicks_a X j n]; rfl
theorem kGo_m {M : Mm} {N t : Int} (h : TikC M N) : Smd (kGo M t) M := fun a q ha => by
  have hJ := GoC_J h.1
  have hr := goA_r hJ t
  have hw := nxW_r h.1.1 (M 11 6)
  have e : goM (goJ M) t a q = M a q := by
    rw [goM_n (by omega) (by omega) (by have := hJ.2.1; omega)]
    exact goJ_n (by omega) (by omega) (by omega) (by omega)
  unfold kGo
  by_cases c : goA (goJ M) t < 0
  · rw [cif_t c]; exact e
  · rw [cif_f c, up_c (by have := (h.2.1 (goA (goJ M) t) (by omega) (by omega)).1; omega)]; exact e
def tkP (I : Mm) (N : Int) (M : Mm) : Prop := ∃ j : Nat, Ivx 24 (mix M (gTicksN I j)) N ∧ Smd M I ∧ M 11 6 = I 49 7 + j
theorem tkP_0 {I : Mm} {N : Int} (hI : Inv I N) : tkP I N I := by
  refine ⟨0, ?_, fun a q _ => rfl, by have := hI.po.2.1; omega⟩
  have e : gTicksN I 0 = I := rfl
  rw [e, mix_i]; exact hI.ix
theorem tkP_b {I : Mm} {N : Int} (M : Mm) (h : tkP I N M) : TikC M N := by
  obtain ⟨j, h1, -, -⟩ := h
  exact TikC_m (h1.tik (by decide))
theorem tkP_s {I : Mm} {N n : Int} (M : Mm) (h : tkP I N M) (ht : M 11 6 < I 49 7 + n) (hc : (1 ≤ n ∧ n ≤ 500) ∧ I 49 7 + n ≤ 99999) : tkP I N (kGo M (I 49 7 + n)) := by
  have hT := tkP_b M h
  obtain ⟨j, h1, h2, h3⟩ := h
  have p2 := h1.po.2.1
  rw [mm11, mg49] at p2
  obtain ⟨d, d1, d2, d3, d4⟩ := h1.jumpG (t := I 49 7 + n) (by omega) (by omega)
  rw [gTicks_a] at d3
  exact ⟨j + d, d3, fun a q ha => by rw [kGo_m hT a q ha]; exact h2 a q ha, by omega⟩
theorem ticks_1 {I I1 : Mm} {N N1 n r : Int} (hI : Inv I N) (h : N1 = N ∧ Fx I1 ∧ ((1 ≤ n ∧ n ≤ 500) ∧ I 49 7 + n ≤ 99999 → tkP I N I1 ∧ I1 11 6 = I 49 7 + n) ∧ (¬ ((1 ≤ n ∧ n ≤ 500) ∧ I 49 7 + n ≤ 99999) → I1 = I) ∧ r = aTicks I n) :
    N1 = N ∧ (∃ A : Mm, Ivx 24 (mix A I1) N) ∧ (0 ≤ I1 49 7 ∧ I1 49 7 ≤ 99999) ∧ r = aTicks I1 n ∧ (Fx (gTicks I1 n) → Inv (gTicks I1 n) N) := by
  obtain ⟨rfl, hF, h1, h2, er⟩ := h
  have h7 := hI.sn.2.1
  by_cases c : (1 ≤ n ∧ n ≤ 500) ∧ I 49 7 + n ≤ 99999
  · obtain ⟨⟨j, c1, c2, c3⟩, c4⟩ := h1 c
    have ej : j = n.toNat := by omega
    subst ej
    have e7 := c2 49 7 (by decide)
    have eA : mix I I1 = I := by
      funext a q
      by_cases ha : 49 ≤ a ∧ a ≤ 66
      · rw [mix_g ha, c2 a q ha]
      · rw [mix_m (by omega)]
    have eg : gTicks I1 n = mix I1 (gTicksN I n.toNat) := by
      unfold gTicks
      rw [cif_t (by rw [e7]; exact c)]
      have := mx_gTicksN (M := I1) (G := I) n.toNat
      rw [← mod_mix c2] at this
      exact this
    refine ⟨rfl, ⟨I, by rw [eA]; exact hI.ix⟩, by rw [e7]; exact h7, by unfold aTicks at er ⊢; rw [e7]; exact er, fun hF2 => ?_⟩
    rw [eg] at hF2 ⊢
    exact c1.inv hF2
  · obtain rfl := h2 c
    have eg : gTicks I1 n = I1 := by unfold gTicks; rw [cif_f c]
    exact ⟨rfl, ⟨I1, by rw [mix_i]; exact hI.ix⟩, h7, er, fun _ => by rw [eg]; exact hI⟩
/-! heaps, cut, found, order: only scratch places change -/
theorem Inv.scr1 {I J : Mm} {N : Int} (hI : Inv I N) (hF : Fx J) (h : ∀ a q : Int, ¬ ((18 ≤ a ∧ a ≤ 24) ∨ a = 61 ∨ (63 ≤ a ∧ a ≤ 66)) → J a q = I a q) : Inv J N :=
  hI.keep hF (fun k => by rw [h 6 k (by decide)]; exact hI.tp.2.2 k) (fun a k hs => h a k (fun x => hs (by unfold scr; omega)))
theorem aHeaps_m {I J : Mm} (h : ∀ a q : Int, 49 ≤ a ∧ a ≤ 60 → J a q = I a q) (s lane i n k : Int) : aHeaps J s lane i n k = aHeaps I s lane i n k ∧ aCut J s lane i n k = aCut I s lane i n k ∧ aFound J s lane i n = aFound I s lane i n ∧ pkF J s lane i n 1 = pkF I s lane i n 1 ∧ itm J s i = itm I s i := by
  have e : ∀ a : Int, 49 ≤ a ∧ a ≤ 60 → J a = I a := fun a ha => funext fun q => h a q ha
  have e49 := e 49 (by decide)
  have e55 := e 55 (by decide)
  have e58 := e 58 (by decide)
  have e59 := e 59 (by decide)
  have e60 := e 60 (by decide)
  have ei : itm J s i = itm I s i := by unfold itm; rw [e60]
  have ew : ∀ n : Int, wrF J s lane i n = wrF I s lane i n := fun n => by unfold wrF; rw [e58, e59]
  have er : rkF J s lane i n = rkF I s lane i n := by unfold rkF okRk; rw [ew, e60]
  refine ⟨by unfold aHeaps; rw [er, ei], by unfold aCut; rw [er, ei], ?_, ?_, ei⟩
  · unfold aFound okWs fndF mks okM v2 vv
    rw [ew, ei, e49, e55, e60]
  · unfold pkF wsF okPk
    rw [ew, ei, e49, e55]
theorem ord_1 {I I1 : Mm} {N s lane i n k r : Int} (hI : Inv I N) (hF : Fx I1) (hf : ∀ a q : Int, a ≠ 22 → a ≠ 23 → a ≠ 24 → I1 a q = I a q) (h1 : ¬ ((1 ≤ n ∧ n ≤ 6) ∧ -1 ≤ k ∧ k < n) → r = -1) (h2 : (1 ≤ n ∧ n ≤ 6) ∧ -1 ≤ k ∧ k < n → pkF I s lane i n 1 ≠ 0 → r = pkF I s lane i n 1) (h3 : (1 ≤ n ∧ n ≤ 6) ∧ -1 ≤ k ∧ k < n → pkF I s lane i n 1 = 0 → ordC I s i n k r) :
    ∃ E g : Int → Int, (((0 ≤ s ∧ s ≤ 3) ∧ (0 ≤ lane ∧ lane ≤ 2) ∧ (1 ≤ n ∧ n ≤ 6) ∧ (-1 ≤ k ∧ k ≤ n - 1)) → pkF I1 s lane i n 1 = 0 → (∀ p q : Int, 0 ≤ p → p < q → q < n → g p < g q) ∧ (∀ v : Int, (∃ q : Int, 0 ≤ q ∧ q < n ∧ g q = v) ↔ (∃ q : Int, 0 ≤ q ∧ q < n ∧ itm I1 s i q = v)) ∧ TbM (upR I1 61 g) E n) ∧
      ∀ r2 : Int, (¬ ((0 ≤ s ∧ s ≤ 3) ∧ (0 ≤ lane ∧ lane ≤ 2) ∧ (1 ≤ n ∧ n ≤ 6) ∧ (-1 ≤ k ∧ k ≤ n - 1)) → r2 = -1) → (((0 ≤ s ∧ s ≤ 3) ∧ (0 ≤ lane ∧ lane ≤ 2) ∧ (1 ≤ n ∧ n ≤ 6) ∧ (-1 ≤ k ∧ k ≤ n - 1)) → pkF I1 s lane i n 1 ≠ 0 → r2 = pkF I1 s lane i n 1) → (((0 ≤ s ∧ s ≤ 3) ∧ (0 ≤ lane ∧ lane ≤ 2) ∧ (1 ≤ n ∧ n ≤ 6) ∧ (-1 ≤ k ∧ k ≤ n - 1)) → pkF I1 s lane i n 1 = 0 → r2 = cif (k = -1) (E 0) (g (bbM (upR I1 61 g) E n (gnM (upR I1 61 g) E n 0 k.toNat)))) → r2 = r := by
  have hI1 : Inv I1 N := hI.scr1 hF (fun a q h => hf a q (by omega) (by omega) (by omega))
  obtain ⟨-, -, -, ep, ei⟩ := aHeaps_m (I := I) (J := I1) (fun a q ha => hf a q (by omega) (by omega) (by omega)) s lane i n k
  rw [ep, ei]
  have hpk : pkF I s lane i n 1 = 0 → ((0 ≤ s ∧ s ≤ 3) ∧ (0 ≤ lane ∧ lane ≤ 2)) ∧ okPk I s i n 1 := fun h => by
    unfold pkF at h
    by_cases c : wsF I s lane i n = 0
    · rw [cif_t c] at h
      have hok : okPk I s i n 1 := Classical.byContradiction fun x => by rw [cif_f x] at h; omega
      refine ⟨?_, hok⟩
      rcases wsF_v I s lane i n with q | q | q
      · omega
      · exact q.1
      · exact q.1
    · rw [cif_f c] at h; exact absurd h c
  have hpn : ¬ ((0 ≤ s ∧ s ≤ 3) ∧ (0 ≤ lane ∧ lane ≤ 2)) → pkF I s lane i n 1 = -1 := fun h => by
    have : wsF I s lane i n = -1 := by unfold wsF; rw [cif_f h]
    unfold pkF
    rw [cif_f (by omega), this]
  by_cases c : (1 ≤ n ∧ n ≤ 6) ∧ -1 ≤ k ∧ k < n
  · by_cases z : pkF I s lane i n 1 = 0
    · obtain ⟨hsl, hok⟩ := hpk z
      obtain ⟨J, g, j1, j2, j3, j4, j5, j6, j7, j8⟩ := h3 c z
      have hg : ∀ q : Int, 0 ≤ q → q < n → J 23 q = 67 + g q ∧ 0 ≤ g q ∧ g q < I1 49 6 := fun q q0 q1 => by
        obtain ⟨u, u0, u1, u2⟩ := (j3 (g q)).mp ⟨q, q0, q1, rfl⟩
        have := (hok.1 u u0 u1).1
        rw [u2] at this
        rw [hf 49 6 (by decide) (by decide) (by decide)]
        exact ⟨j4 q q0 q1, this⟩
      have hf1 : ∀ a q : Int, 67 ≤ a → J a q = I1 a q := fun a q ha => by rw [hf a q (by omega) (by omega) (by omega)]; exact j5 a q ha
      rw [← hf 49 7 (by decide) (by decide) (by decide)] at j6 j8
      have hT := LLp_B hI1 c.1 j1 hg hf1 j6
      refine ⟨J 24, g, fun _ _ => ⟨j2, j3, hT⟩, fun r2 _ _ r3 => ?_⟩
      rw [r3 ⟨hsl.1, hsl.2, c.1, by omega⟩ z]
      by_cases k1 : k = -1
      · rw [cif_t k1, j7 k1]
      · rw [cif_f k1, j8 (by omega), gnF_B hI1 j1 hg hf1, bbF_B hI1 j1 hg hf1]
    · refine ⟨fun _ => 0, fun _ => 0, fun _ h => absurd h z, fun r2 r1 r3 _ => ?_⟩
      rw [h2 c z]
      by_cases hsl : (0 ≤ s ∧ s ≤ 3) ∧ (0 ≤ lane ∧ lane ≤ 2)
      · exact r3 ⟨hsl.1, hsl.2, c.1, by omega⟩ z
      · rw [hpn hsl]; exact r1 (fun x => hsl ⟨x.1, x.2.1⟩)
  · refine ⟨fun _ => 0, fun _ => 0, fun h _ => absurd ⟨h.2.2.1, by omega⟩ c, fun r2 r1 _ _ => ?_⟩
    rw [h1 c]
    exact r1 (fun x => c ⟨x.2.2.1, by omega⟩)
