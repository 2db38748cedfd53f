/-! ===== type, rule, full keep the invariant ===== -/
theorem app_at (I : Mm) (w n b a c k : Int) (hac : a ≠ c) (hb : I c k = b) : ∀ m : Nat, (∀ x y : Int, x ≠ a → ¬ (x = c ∧ y = k) → fld (fun M q => up (up M a (b + q) (bt w (n - 1 - q))) c k (b + q + 1)) I m x y = I x y) ∧ fld (fun M q => up (up M a (b + q) (bt w (n - 1 - q))) c k (b + q + 1)) I m c k = b + m ∧ ∀ y : Int, fld (fun M q => up (up M a (b + q) (bt w (n - 1 - q))) c k (b + q + 1)) I m a y = cif (b ≤ y ∧ y < b + m) (bt w (n - 1 - (y - b))) (I a y)
  | 0 => ⟨fun _ _ _ _ => rfl, by show I c k = _; omega, fun y => by rw [cif_f (by omega)]; rfl⟩
  | m + 1 => by
    obtain ⟨h1, h2, h3⟩ := app_at I w n b a c k hac hb m
    have e : fld (fun M q => up (up M a (b + q) (bt w (n - 1 - q))) c k (b + q + 1)) I (m + 1) = up (up (fld (fun M q => up (up M a (b + q) (bt w (n - 1 - q))) c k (b + q + 1)) I m) a (b + m) (bt w (n - 1 - m))) c k (b + m + 1) := rfl
    rw [e]
    refine ⟨fun x y hx hy => by rw [up_n (by omega), up_c hx]; exact h1 x y hx hy, by rw [up_s]; omega, fun y => ?_⟩
    rw [up_c hac]
    by_cases d : y = b + m
    · rw [d, up_s, cif_t (by omega), show b + (m : Int) - b = m by omega]
    · rw [up_k d, h3 y]
      exact cif_iff (by omega)
theorem Inv.type1 {I : Mm} {N w n : Int} (hI : Inv I N) (hF : Fx (gType (kType I w n) w n)) : Inv (gType (kType I w n) w n) N ∧ aType (kType I w n) w n = aType I w n := by
  have htp := hI.tp
  have h20 := hI.sn.2.2.2.2.2.1
  unfold kType at hF ⊢
  by_cases c : (1 ≤ n ∧ n ≤ 8) ∧ okB w n ∧ I 49 20 + n ≤ 40
  · rw [cif_t c] at hF ⊢
    obtain ⟨k1, k2, k3⟩ := app_at I w n (I 4 1) 5 4 1 (by decide) rfl n.toNat
    obtain ⟨K, eK⟩ : ∃ K : Mm, K = gAppN I w n n.toNat := ⟨_, rfl⟩
    have eK2 : fld (fun M q => up (up M 5 (I 4 1 + q) (bt w (n - 1 - q))) 4 1 (I 4 1 + q + 1)) I n.toNat = K := eK.symm
    rw [eK2] at k1 k2 k3
    rw [← eK] at hF ⊢
    have e20 : K 49 20 = I 49 20 := k1 49 20 (by decide) (by decide)
    have ea : aType K w n = aType I w n := by unfold aType; rw [e20]
    refine ⟨?_, ea⟩
    have eg : gType K w n = gTypeN K w n n.toNat := by unfold gType; rw [e20, cif_t c]
    rw [eg] at hF ⊢
    obtain ⟨m1, m2, m3⟩ := app_at K w n (K 49 20) 62 49 20 (by decide) rfl n.toNat
    have eG : fld (fun M q => up (up M 62 (K 49 20 + q) (bt w (n - 1 - q))) 49 20 (K 49 20 + q + 1)) K n.toNat = gTypeN K w n n.toNat := rfl
    rw [eG] at m1 m2 m3
    generalize gTypeN K w n n.toNat = J at hF m1 m2 m3 ⊢
    rw [e20] at m2 m3
    refine hI.side hF (fun a k h => by rw [m1 a k (by unfold sid at h; omega) (by unfold sid at h; omega)]; exact k1 a k (by unfold sid at h; omega) (by unfold sid at h; omega)) (by omega) (CSh_of hI.sh (fun a q h => by rw [m1 a q (by omega) (by omega)]; exact k1 a q (by omega) (by omega))) ⟨?_, fun q q0 q1 => ?_, fun q => by rw [m1 6 q (by decide) (by omega), k1 6 q (by decide) (by omega)]; exact htp.2.2 q⟩ ?_
    · rw [m1 4 1 (by decide) (by decide), k2, m2, htp.1]
    · rw [m2] at q1
      rw [m1 5 q (by decide) (by omega), k3 q, m3 q, htp.1]
      by_cases d : I 49 20 ≤ q ∧ q < I 49 20 + n.toNat
      · rw [cif_t d, cif_t d]
        have := c.2.1 (n - 1 - (q - I 49 20)) (by omega) (by omega)
        exact ⟨rfl, this.1, this.2⟩
      · rw [cif_f d, cif_f d, k1 62 q (by decide) (by omega)]
        exact htp.2.1 q q0 (by omega)
    · intro q q0 q1
      rw [m1 8 q (by decide) (by omega), k1 8 q (by decide) (by omega), m1 10 q (by decide) (by omega), k1 10 q (by decide) (by omega), m1 57 q (by decide) (by omega), k1 57 q (by decide) (by omega), m1 57 (6 + q) (by decide) (by omega), k1 57 (6 + q) (by decide) (by omega)]
      exact hI.ru q q0 q1
  · rw [cif_f c] at hF ⊢
    refine ⟨?_, rfl⟩
    have eg : gType I w n = I := by unfold gType; rw [cif_f c]
    rw [eg]
    exact hI
theorem Inv.rule1 {I K J : Mm} {N q : Int} (hI : Inv I N) (hF : Fx J) (hK : kRuleR I q K) (hJ : gRuleR K q J) : Inv J N ∧ aRule K q = aRule I q := by
  have htp := hI.tp
  by_cases c : 0 ≤ q ∧ q ≤ 1
  · obtain ⟨k1, k2, k3, k4⟩ := hK.2 c
    have er : rdA K = rdA I := by
      unfold rdA
      rw [k4 49 20 (by decide) (by omega) (by omega), show K 62 = I 62 from funext fun x => k4 62 x (by decide) (by omega) (by omega)]
    obtain ⟨j1, j2, j3, j4⟩ := hJ.2 c
    rw [er] at j2
    refine ⟨?_, by unfold aRule; rw [er]⟩
    refine hI.side hF (fun a k h => by rw [j4 a k (by unfold sid at h; omega) (by unfold sid at h; omega) (by unfold sid at h; omega)]; exact k4 a k (by unfold sid at h; omega) (by unfold sid at h; omega) (by unfold sid at h; omega)) (by omega) (CSh_of hI.sh (fun a x h => by rw [j4 a x (by omega) (by omega) (by omega)]; exact k4 a x (by omega) (by omega) (by omega))) ⟨?_, fun x x0 x1 => by omega, fun x => by rw [j4 6 x (by decide) (by decide) (by omega)]; exact k3 x⟩ ?_
    · rw [j4 4 1 (by decide) (by decide) (by omega), k1, j1]
    · intro x x0 x1
      have hru := hI.ru x x0 x1
      rw [j4 8 x (by decide) (by decide) (by omega), j4 10 x (by decide) (by decide) (by omega)]
      rcases (show q = 0 ∨ q = 1 by omega) with rfl | rfl
      · have h8 := k2 x x0 x1
        rw [show (8 : Int) + 2 * 0 = 8 by omega] at h8
        have h57 := j2 x x0 x1
        rw [show (6 : Int) * 0 + x = x by omega] at h57
        rw [h8, h57, j3 (6 + x) (by omega), k4 10 x (by decide) (by omega) (by omega), k4 57 (6 + x) (by decide) (by omega) (by omega), k4 57 x (by decide) (by omega) (by omega), hru.1]
        exact ⟨rfl, hru.2⟩
      · have h10 := k2 x x0 x1
        rw [show (8 : Int) + 2 * 1 = 10 by omega] at h10
        have h57 := j2 x x0 x1
        rw [show (6 : Int) * 1 + x = 6 + x by omega] at h57
        rw [h10, h57, j3 x (by omega), k4 8 x (by decide) (by omega) (by omega), k4 57 (6 + x) (by decide) (by omega) (by omega), k4 57 x (by decide) (by omega) (by omega), hru.2]
        exact ⟨hru.1, rfl⟩
  · rw [hK.1 c] at hJ ⊢
    rw [hJ.1 c]
    exact ⟨hI, rfl⟩
