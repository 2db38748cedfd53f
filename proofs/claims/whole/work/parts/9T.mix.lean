/-! ===== the class's cells of one memory, the reference's of another ===== -/
def mix (M G : Mm) : Mm := fun a q => if 49 ≤ a ∧ a ≤ 66 then G a q else M a q
section MX
variable {M G : Mm}
theorem mix_g {a : Int} (h : 49 ≤ a ∧ a ≤ 66) (q : Int) : mix M G a q = G a q := by unfold mix; rw [if_pos h]
theorem mix_m {a : Int} (h : a < 49 ∨ 66 < a) (q : Int) : mix M G a q = M a q := by unfold mix; rw [if_neg (by omega)]
theorem mix_i (M : Mm) : mix M M = M := by
  funext a q
  by_cases h : 49 ≤ a ∧ a ≤ 66
  · rw [mix_g h]
  · rw [mix_m (by omega)]
theorem mix_a (A B C : Mm) : mix (mix A B) C = mix A C := by
  funext a q
  by_cases h : 49 ≤ a ∧ a ≤ 66
  · rw [mix_g h, mix_g h]
  · rw [mix_m (by omega), mix_m (by omega), mix_m (by omega)]
theorem mix_b (A B C : Mm) : mix A (mix B C) = mix A C := by
  funext a q
  by_cases h : 49 ≤ a ∧ a ≤ 66
  · rw [mix_g h, mix_g h, mix_g h]
  · rw [mix_m (by omega), mix_m (by omega)]
theorem up_mg {a k v : Int} (h : 49 ≤ a ∧ a ≤ 66) : up (mix M G) a k v = mix M (up G a k v) := by
  funext a' q
  by_cases h' : 49 ≤ a' ∧ a' ≤ 66
  · rw [mix_g h']
    unfold up
    rw [mix_g h']
  · rw [mix_m (by omega), up_c (by omega), mix_m (by omega)]
theorem up_mm {a k v : Int} (h : a < 49 ∨ 66 < a) : up (mix M G) a k v = mix (up M a k v) G := by
  funext a' q
  by_cases h' : 49 ≤ a' ∧ a' ≤ 66
  · rw [mix_g h', up_c (by omega), mix_g h']
  · rw [mix_m (by omega)]
    unfold up
    rw [mix_m (by omega)]
theorem mx_cif {p : Prop} {A B : Mm} : cif p (mix M A) (mix M B) = mix M (cif p A B) := by
  by_cases h : p
  · rw [cif_t h, cif_t h]
  · rw [cif_f h, cif_f h]
theorem mm_cif {p : Prop} {A B : Mm} : cif p (mix A G) (mix B G) = mix (cif p A B) G := by
  by_cases h : p
  · rw [cif_t h, cif_t h]
  · rw [cif_f h, cif_f h]
theorem mg49 (q : Int) : mix M G 49 q = G 49 q := mix_g (by decide) q
theorem ug49 (k v : Int) : up (mix M G) 49 k v = mix M (up G 49 k v) := up_mg (by decide)
theorem mg50 (q : Int) : mix M G 50 q = G 50 q := mix_g (by decide) q
theorem ug50 (k v : Int) : up (mix M G) 50 k v = mix M (up G 50 k v) := up_mg (by decide)
theorem mg51 (q : Int) : mix M G 51 q = G 51 q := mix_g (by decide) q
theorem ug51 (k v : Int) : up (mix M G) 51 k v = mix M (up G 51 k v) := up_mg (by decide)
theorem mg52 (q : Int) : mix M G 52 q = G 52 q := mix_g (by decide) q
theorem ug52 (k v : Int) : up (mix M G) 52 k v = mix M (up G 52 k v) := up_mg (by decide)
theorem mg53 (q : Int) : mix M G 53 q = G 53 q := mix_g (by decide) q
theorem ug53 (k v : Int) : up (mix M G) 53 k v = mix M (up G 53 k v) := up_mg (by decide)
theorem mg54 (q : Int) : mix M G 54 q = G 54 q := mix_g (by decide) q
theorem ug54 (k v : Int) : up (mix M G) 54 k v = mix M (up G 54 k v) := up_mg (by decide)
theorem mg55 (q : Int) : mix M G 55 q = G 55 q := mix_g (by decide) q
theorem ug55 (k v : Int) : up (mix M G) 55 k v = mix M (up G 55 k v) := up_mg (by decide)
theorem mg56 (q : Int) : mix M G 56 q = G 56 q := mix_g (by decide) q
theorem ug56 (k v : Int) : up (mix M G) 56 k v = mix M (up G 56 k v) := up_mg (by decide)
theorem mg57 (q : Int) : mix M G 57 q = G 57 q := mix_g (by decide) q
theorem ug57 (k v : Int) : up (mix M G) 57 k v = mix M (up G 57 k v) := up_mg (by decide)
theorem mg58 (q : Int) : mix M G 58 q = G 58 q := mix_g (by decide) q
theorem ug58 (k v : Int) : up (mix M G) 58 k v = mix M (up G 58 k v) := up_mg (by decide)
theorem mg59 (q : Int) : mix M G 59 q = G 59 q := mix_g (by decide) q
theorem ug59 (k v : Int) : up (mix M G) 59 k v = mix M (up G 59 k v) := up_mg (by decide)
theorem mg60 (q : Int) : mix M G 60 q = G 60 q := mix_g (by decide) q
theorem ug60 (k v : Int) : up (mix M G) 60 k v = mix M (up G 60 k v) := up_mg (by decide)
theorem mg61 (q : Int) : mix M G 61 q = G 61 q := mix_g (by decide) q
theorem ug61 (k v : Int) : up (mix M G) 61 k v = mix M (up G 61 k v) := up_mg (by decide)
theorem mg62 (q : Int) : mix M G 62 q = G 62 q := mix_g (by decide) q
theorem ug62 (k v : Int) : up (mix M G) 62 k v = mix M (up G 62 k v) := up_mg (by decide)
theorem mg63 (q : Int) : mix M G 63 q = G 63 q := mix_g (by decide) q
theorem ug63 (k v : Int) : up (mix M G) 63 k v = mix M (up G 63 k v) := up_mg (by decide)
theorem mg64 (q : Int) : mix M G 64 q = G 64 q := mix_g (by decide) q
theorem ug64 (k v : Int) : up (mix M G) 64 k v = mix M (up G 64 k v) := up_mg (by decide)
theorem mg65 (q : Int) : mix M G 65 q = G 65 q := mix_g (by decide) q
theorem ug65 (k v : Int) : up (mix M G) 65 k v = mix M (up G 65 k v) := up_mg (by decide)
theorem mg66 (q : Int) : mix M G 66 q = G 66 q := mix_g (by decide) q
theorem ug66 (k v : Int) : up (mix M G) 66 k v = mix M (up G 66 k v) := up_mg (by decide)
theorem mm0 (q : Int) : mix M G 0 q = M 0 q := mix_m (by decide) q
theorem um0 (k v : Int) : up (mix M G) 0 k v = mix (up M 0 k v) G := up_mm (by decide)
theorem mm1 (q : Int) : mix M G 1 q = M 1 q := mix_m (by decide) q
theorem um1 (k v : Int) : up (mix M G) 1 k v = mix (up M 1 k v) G := up_mm (by decide)
theorem mm2 (q : Int) : mix M G 2 q = M 2 q := mix_m (by decide) q
theorem um2 (k v : Int) : up (mix M G) 2 k v = mix (up M 2 k v) G := up_mm (by decide)
theorem mm3 (q : Int) : mix M G 3 q = M 3 q := mix_m (by decide) q
theorem um3 (k v : Int) : up (mix M G) 3 k v = mix (up M 3 k v) G := up_mm (by decide)
theorem mm4 (q : Int) : mix M G 4 q = M 4 q := mix_m (by decide) q
theorem um4 (k v : Int) : up (mix M G) 4 k v = mix (up M 4 k v) G := up_mm (by decide)
theorem mm5 (q : Int) : mix M G 5 q = M 5 q := mix_m (by decide) q
theorem um5 (k v : Int) : up (mix M G) 5 k v = mix (up M 5 k v) G := up_mm (by decide)
theorem mm6 (q : Int) : mix M G 6 q = M 6 q := mix_m (by decide) q
theorem um6 (k v : Int) : up (mix M G) 6 k v = mix (up M 6 k v) G := up_mm (by decide)
theorem mm8 (q : Int) : mix M G 8 q = M 8 q := mix_m (by decide) q
theorem um8 (k v : Int) : up (mix M G) 8 k v = mix (up M 8 k v) G := up_mm (by decide)
theorem mm10 (q : Int) : mix M G 10 q = M 10 q := mix_m (by decide) q
theorem um10 (k v : Int) : up (mix M G) 10 k v = mix (up M 10 k v) G := up_mm (by decide)
theorem mm11 (q : Int) : mix M G 11 q = M 11 q := mix_m (by decide) q
theorem um11 (k v : Int) : up (mix M G) 11 k v = mix (up M 11 k v) G := up_mm (by decide)
theorem mm13 (q : Int) : mix M G 13 q = M 13 q := mix_m (by decide) q
theorem um13 (k v : Int) : up (mix M G) 13 k v = mix (up M 13 k v) G := up_mm (by decide)
theorem mm14 (q : Int) : mix M G 14 q = M 14 q := mix_m (by decide) q
theorem um14 (k v : Int) : up (mix M G) 14 k v = mix (up M 14 k v) G := up_mm (by decide)
theorem mm15 (q : Int) : mix M G 15 q = M 15 q := mix_m (by decide) q
theorem um15 (k v : Int) : up (mix M G) 15 k v = mix (up M 15 k v) G := up_mm (by decide)
theorem mm16 (q : Int) : mix M G 16 q = M 16 q := mix_m (by decide) q
theorem um16 (k v : Int) : up (mix M G) 16 k v = mix (up M 16 k v) G := up_mm (by decide)
theorem mm17 (q : Int) : mix M G 17 q = M 17 q := mix_m (by decide) q
theorem um17 (k v : Int) : up (mix M G) 17 k v = mix (up M 17 k v) G := up_mm (by decide)
/-! the reference's functions -/
theorem mx_gNew (s ln : Int) : gNew (mix M G) s ln = mix M (gNew G s ln) := by
  unfold gNew nEnd nGate nGate0
  simp only [mg49, mg50, mg51, mg52, mg53, ug49, ug51, ug52, ug53, ug55]
theorem mx_rk (w q : Int) : rk (mix M G) w q = rk G w q := by
  unfold rk
  simp only [mg55, mg57]
theorem mx_grt : grt (mix M G) = grt G := by
  unfold grt
  simp only [mg55, mg49, mx_rk]
theorem mx_ofM : ofM (mix M G) = ofM G := by
  unfold ofM
  simp only [mg55, mg49]
theorem mx_dmk (w : Int) : dmk (mix M G) w = dmk G w := by
  unfold dmk
  simp only [mg55, mg49]
theorem mx_gDrops (w : Int) : gDrops (mix M G) w = mix M (gDrops G w) := by
  unfold gDrops
  simp only [ug55, mx_dmk]
theorem mx_victim (w : Int) : victim (mix M G) w = victim G w := by
  unfold victim
  simp only [mg49, mx_grt, mx_ofM]
theorem mx_gComes (s ln : Int) : gComes (mix M G) s ln = mix M (gComes G s ln) := by
  unfold gComes
  simp only [mx_gNew, mg49, mg55, mx_victim, mx_gDrops, mx_cif]
theorem mx_hasO (h : Int) : hasO (mix M G) h = hasO G h := by
  unfold hasO opn
  simp only [mg55, mg49]
theorem mx_mkN : mkN (mix M G) = mkN G := by
  unfold mkN
  simp only [mg55, mg49, mx_hasO, mx_rk]
theorem mx_wOf (h : Int) : wOf (mix M G) h = wOf G h := by
  unfold wOf opn
  simp only [mg55, mg49, mx_rk]
theorem mx_gSend (m p : Int) : gSend (mix M G) m p = mix M (gSend G m p) := by
  unfold gSend
  simp only [mg49, ug49, ug55, ug56]
theorem mx_gLeave : gLeave (mix M G) = mix M (gLeave G) := by
  unfold gLeave
  simp only [mg49, mg54, mg55, ug49, ug54, ug55]
theorem mx_gTail : gTail (mix M G) = mix M (gTail G) := by
  unfold gTail
  simp only [mg49, ug49, mg55, mx_gLeave, mx_cif]
theorem mx_gTick : gTick (mix M G) = mix M (gTick G) := by
  unfold gTick
  simp only [mg49, mg55, mx_mkN, mx_wOf, mx_gSend, mx_cif, mx_gTail]
theorem mx_gTicksN : ∀ n : Nat, gTicksN (mix M G) n = mix M (gTicksN G n)
  | 0 => rfl
  | n + 1 => by
    have e : ∀ K : Mm, gTicksN K (n + 1) = gTick (gTicksN K n) := fun _ => rfl
    rw [e, e, mx_gTicksN n, mx_gTick]
/-! the class's functions -/
theorem bstL_c {p q : Int → Prop} {lt lt' : Int → Int → Prop} : ∀ {n : Nat}, (∀ i : Int, 0 ≤ i → i < n → (p i ↔ q i)) → (∀ i j : Int, 0 ≤ i → i < n → 0 ≤ j → j < n → (lt i j ↔ lt' i j)) → bstL p lt n = bstL q lt' n
  | 0, _, _ => rfl
  | n + 1, h, hl => by
    have e : ∀ (p : Int → Prop) (lt : Int → Int → Prop), bstL p lt (n + 1) = cif (p n ∧ (bstL p lt n = -1 ∨ lt n (bstL p lt n))) (n : Int) (bstL p lt n) := fun _ _ => rfl
    rw [e, e, bstL_c (n := n) (fun i a b => h i a (by omega)) (fun i j a b c d => hl i j a (by omega) c (by omega))]
    refine cif_iff (and_congr (h n (by omega) (by omega)) ?_)
    rcases bstL_r q lt' n with r | ⟨r1, r2, -⟩
    · rw [r]; exact ⟨fun _ => Or.inl rfl, fun _ => Or.inl rfl⟩
    · exact or_congr Iff.rfl (hl _ _ (by omega) (by omega) r1 (by omega))
theorem lstL_c {p q : Int → Prop} {n : Nat} (h : ∀ i : Int, 0 ≤ i → i < n → (p i ↔ q i)) : lstL p n = lstL q n := by
  unfold lstL
  exact fld_cong fun b i a c => cif_iff (h i a c)
theorem mm_crk {r c : Int} (hr : r < 49) (hc : 67 ≤ c) : crk (mix M G) r c = crk M r c := by
  unfold crk trt
  refine fld_cong fun s k _ _ => ?_
  simp only [mix_m (M := M) (G := G) (Or.inl hr), mix_m (M := M) (G := G) (show c < 49 ∨ 66 < c by omega)]
theorem mm_rmC {c r i : Int} (hc : c < 49) (hr : r < 49) : rmC (mix M G) c r i = mix (rmC M c r i) G := by
  funext a q
  by_cases h : 49 ≤ a ∧ a ≤ 66
  · rw [rmC_n (by omega) (by omega), mix_g h, mix_g h]
  · rw [mix_m (by omega)]
    unfold rmC rmL
    rw [mix_m (Or.inl hc)]
    by_cases x : 0 ≤ i ∧ i < M c 1
    · rw [cif_t x, cif_t x]
      simp only [mix_m (M := M) (G := G) (Or.inl hc), mix_m (M := M) (G := G) (Or.inl hr), mix_m (M := M) (G := G) (show a < 49 ∨ 66 < a by omega)]
    · rw [cif_f x, cif_f x, mix_m (by omega)]
theorem mm_gPut (b : Int) : gPut (mix M G) b = mix (gPut M b) G := by
  unfold gPut
  simp only [mm13, mm15, um14, um13, um16, um15]
theorem mm_gDis1 (w : Int) : gDis1 (mix M G) w = mix (gDis1 M w) G := by
  unfold gDis1
  simp only [mm13, mm14, mm_rmC (M := M) (G := G) (show (13 : Int) < 49 by decide) (show (14 : Int) < 49 by decide)]
theorem mm_gTake (q w : Int) : gTake (mix M G) q w = mix (gTake M q w) G := by
  unfold gTake
  simp only [mm_rmC (show (15 : Int) < 49 by decide) (show (16 : Int) < 49 by decide), mm_rmC (show (13 : Int) < 49 by decide) (show (14 : Int) < 49 by decide), mm13, mm14]
variable {N : Int}
theorem mm_laM (hS : StoC M N) (h : Int) : laM (mix M G) h = laM M h := by
  unfold laM
  simp only [mm15, mm16]
  refine lstL_c fun i a b => ?_
  have := hS.2.1.2 i a (by omega)
  rw [mix_m (by omega)]
theorem mm_gDisQ (hS : StoC M N) {w : Int} (hw : 67 ≤ w) : gDisQ (mix M G) w = gDisQ M w := by
  unfold gDisQ
  simp only [mm15, mm16, mm_laM hS, mix_m (M := M) (G := G) (show w < 49 ∨ 66 < w by omega)]
theorem mm_gDis (hS : StoC M N) {w : Int} (hw : 67 ≤ w) : gDis (mix M G) w = mix (gDis M w) G := by
  have h1 : StoC (gDis1 M w) N := StoC_rm13 hS _
  unfold gDis
  rw [mm_gDis1, mm_gDisQ h1 hw, mm_rmC (by decide) (by decide)]
theorem mm_opH (hS : StoC M N) (t h : Int) : opH (mix M G) t h (M 13 1) ↔ opH M t h (M 13 1) := by
  unfold opH
  simp only [mm14]
  constructor
  · rintro ⟨i, a, b, c, d⟩
    have := hS.1.2 i a b
    rw [mix_m (by omega)] at c d
    exact ⟨i, a, b, c, d⟩
  · rintro ⟨i, a, b, c, d⟩
    have := hS.1.2 i a b
    refine ⟨i, a, b, ?_, ?_⟩
    · rw [mix_m (by omega)]; exact c
    · rw [mix_m (by omega)]; exact d
theorem mm_nxM (hS : StoC M N) (t : Int) : nxM (mix M G) t = nxM M t := by
  unfold nxM
  simp only [mm13, mm15, mm16]
  refine bstL_c (fun i a b => ?_) (fun i j a b c d => ?_)
  · have := hS.2.1.2 i a (by omega)
    rw [mix_m (by omega)]; exact mm_opH hS _ _
  · have h1 := hS.2.1.2 i a (by omega)
    have h2 := hS.2.1.2 j c (by omega)
    rw [mm_crk (by decide) h1.1, mm_crk (by decide) h2.1]
theorem mm_lsO (hS : StoC M N) (h t : Int) : lsO (mix M G) h t = lsO M h t := by
  unfold lsO
  simp only [mm13, mm14]
  refine bstL_c (fun i a b => ?_) (fun i j a b c d => ?_)
  · have := hS.1.2 i a (by omega)
    rw [mix_m (by omega), mix_m (by omega)]
  · have h1 := hS.1.2 i a (by omega)
    have h2 := hS.1.2 j c (by omega)
    rw [mm_crk (by decide) h1.1, mm_crk (by decide) h2.1]
theorem mm_grL (hS : StoC M N) : grL (mix M G) = grL M := by
  unfold grL
  simp only [mm13, mm14]
  refine bstL_c (fun i a b => Iff.rfl) (fun i j a b c d => ?_)
  have h1 := hS.1.2 i a (by omega)
  have h2 := hS.1.2 j c (by omega)
  rw [mm_crk (by decide) h1.1, mm_crk (by decide) h2.1]
theorem mm_cnS (hS : StoC M N) (s : Int) : cnS (mix M G) s = cnS M s := by
  unfold cnS
  simp only [mm13, mm14]
  refine cntW_c fun i a b => ?_
  have := hS.1.2 i a (by omega)
  rw [mix_m (by omega)]
theorem mm_fuS (hS : StoC M N) : fuS (mix M G) = fuS M := by
  unfold fuS
  simp only [mm_cnS hS]
theorem mm_laO (hS : StoC M N) (s : Int) : laO (mix M G) s = laO M s := by
  unfold laO
  simp only [mm13, mm14]
  refine lstL_c fun i a b => ?_
  have := hS.1.2 i a (by omega)
  rw [mix_m (by omega)]
theorem mm_celL {r : Int} (hr : r < 49) (b : Int) : celL (mix M G) r b = celL M r b := by
  unfold celL
  rw [mix_m (Or.inl hr)]
theorem mm_nxW (hS : StoC M N) (t : Int) : nxW (mix M G) t = nxW M t := by
  unfold nxW
  rw [mm_nxM hS, mm16]
  by_cases c : nxM M t = -1
  · rw [cif_t c, cif_t c]
  · rw [cif_f c, cif_f c]
    have h := nxM_r hS.2.1 t
    have h2 := hS.2.1.2 (nxM M t) (by omega) (by omega)
    rw [mix_m (a := M 16 (nxM M t)) (by omega), mm_lsO hS, mm_celL (by decide)]
theorem mm_vic (hS : StoC M N) (d : Int) : vic (mix M G) d = vic M d := by
  unfold vic lnA
  rw [mm_grL hS, mm_fuS hS, mm_laO hS, mm_celL (by decide), mm_celL (by decide), mm13, mm14]
theorem mm_fGt (hS : StoC M N) (t : Int) : fGt (mix M G) t = fGt M t := by
  unfold fGt
  simp only [mm13, mm14]
  refine fld_cong fun a i b c => ?_
  have := hS.1.2 i b (by omega)
  rw [mix_m (by omega)]
theorem mm_gLet {b : Int} (hS : StoC (gPut M b) N) : gLet (mix M G) b = mix (gLet M b) G := by
  unfold gLet
  have hv := vic_r hS (M 11 4)
  rw [mm_gPut, mm11, mm11, mm11, mm13, mm_vic hS]
  by_cases c : M 11 3 ≤ M 13 1 ∧ 0 ≤ vic (gPut M b) (M 11 4)
  · rw [cif_t c, cif_t c, mm_gDis hS (by omega), up_mm (by omega), um11]
  · rw [cif_f c, cif_f c]
theorem mm_gStart (hS : StoC M N) : gStart (mix M G) = mix (gStart M) G := by
  unfold gStart
  have hv := nxW_r hS (M 11 6)
  simp only [mm11, mm_nxW hS, mm_nxM hS, mm_gTake]
  by_cases c : M 11 2 < 1000 ∧ 0 ≤ nxW M (M 11 6)
  · rw [cif_t c, cif_t c, up_mm (by omega), up_mm (by omega), up_mm (by omega), um17, um11, um11]
  · rw [cif_f c, cif_f c]
theorem mm_goJ (hS : StoC M N) : goJ (mix M G) = mix (goJ M) G := by
  unfold goJ
  rw [mm11, mm_gStart hS, mm_cif]
theorem mm_goC (h : GoC M N) (t : Int) : goC (mix M G) t = goC M t := by
  unfold goC
  have h5 := h.2.1
  rw [mm11]
  by_cases c : M 11 5 < 0
  · rw [cif_t c, cif_t c, mm_fGt h.1]
  · rw [cif_f c, cif_f c, mix_m (by omega), mix_m (by omega)]
theorem mm_goN (h : GoC M N) (t : Int) : goN (mix M G) t = goN M t := by
  unfold goN
  rw [mm11, mm_goC h]
theorem mm_goA (h : GoC M N) (t : Int) : goA (mix M G) t = goA M t := by
  unfold goA
  rw [mm11, mm_goC h, mm_goN h]
theorem mm_goM (h : GoC M N) (t : Int) : goM (mix M G) t = mix (goM M t) G := by
  unfold goM
  have h5 := h.2.1
  rw [mm11, mm_goC h, mm_goN h]
  by_cases c : 0 ≤ M 11 5 ∧ goC M t ≤ goN M t
  · rw [cif_t c, cif_t c, um11]
    unfold gFin
    rw [mm11, mm11, up_k (a := 11) (k' := 5) (by decide), mix_m (by omega), up_mm (by omega), um11, um11, um11]
  · rw [cif_f c, cif_f c, um11]
theorem mm_kGo (h : TikC M N) (t : Int) : kGo (mix M G) t = mix (kGo M t) G := by
  have hJ := GoC_J h.1
  have hr := goA_r hJ t
  unfold kGo
  rw [mm_goJ h.1.1, mm_goA hJ, mm_goM hJ]
  by_cases c : goA (goJ M) t < 0
  · rw [cif_t c, cif_t c]
  · have hw := (h.2.1 (goA (goJ M) t) (by omega) (by omega)).1
    rw [cif_f c, cif_f c, mix_m (a := goA (goJ M) t) (by omega), mix_m (a := goA (goJ M) t) (by omega), mix_m (by omega), up_mm (by omega)]
end MX
