/-! ===== the clock goes on; a word leaves ===== -/
theorem Ivx.idle {K : Mm} {N t : Int} (h : Ivx 24 K N) (ht : K 49 7 ≤ t) (ht2 : t ≤ 99999) (hp : K 49 9 ≠ -4 → t < K 55 (13 * K 49 9 + 10) + K 55 (13 * K 49 9 + 1)) : Ivx 24 (up (up K 11 6 t) 49 7 t) N := by
  obtain ⟨m1, m2, m3, m4, m5, m6, m7⟩ := h.sn
  obtain ⟨p1, p2, p3, p4, p5, p6, p7, p8, p9, p10⟩ := h.po
  have r : ∀ a : Int, a ≠ 11 → a ≠ 49 → up (up K 11 6 t) 49 7 t a = K a := fun a h1 h2 => by rw [up_row h2, up_row h1]
  have e49 : ∀ q : Int, q ≠ 7 → up (up K 11 6 t) 49 7 t 49 q = K 49 q := fun q hq => by rw [up_k hq, up_c (by decide)]
  have e11 : ∀ q : Int, q ≠ 6 → up (up K 11 6 t) 49 7 t 11 q = K 11 q := fun q hq => by rw [up_c (by decide), up_k hq]
  have e7 : up (up K 11 6 t) 49 7 t 49 7 = t := up_s _ _ _ _
  have e6 : up (up K 11 6 t) 49 7 t 11 6 = t := by rw [up_c (by decide), up_s]
  generalize up (up K 11 6 t) 49 7 t = J at *
  have h6 : J 49 6 = K 49 6 := e49 6 (by decide)
  have e55 := r 55 (by decide) (by decide)
  refine ⟨by rw [h6]; exact h.n, ?_, ?_, ?_, ?_, ?_, ?_, ?_, ?_, ?_, ?_, ?_, ?_, ?_, ?_, ?_⟩
  · unfold SN; rw [h6, e7, e49 8 (by decide), e49 9 (by decide), e49 12 (by decide), e49 13 (by decide), e49 20 (by decide)]; exact ⟨m1, by omega, m3, m4, m5, m6, m7⟩
  · exact SS_of h6 e55 (r 51 (by decide) (by decide)) (r 52 (by decide) (by decide)) (r 53 (by decide) (by decide)) (r 54 (by decide) (by decide)) h.ss
  · intro w w0 w1
    rw [h6] at w1
    have := h.sw w w0 w1
    rw [h6, e7, e55]
    omega
  · unfold SetOK; rw [r 50 (by decide) (by decide)]; exact h.set
  · exact CSt_of h.st (fun a q ha => by rw [r a (by omega) (by omega)]) (r 50 (by decide) (by decide)) (r 51 (by decide) (by decide)) (r 52 (by decide) (by decide)) (r 53 (by decide) (by decide)) (r 54 (by decide) (by decide))
  · exact CSh_of h.sh (fun a q ha => by rw [r a (by omega) (by omega)])
  · exact CTp_of (by rw [r 4 (by decide) (by decide)]) (e49 20 (by decide)) (r 5 (by decide) (by decide)) (r 62 (by decide) (by decide)) (r 6 (by decide) (by decide)) h.tp
  · exact CRu_of (r 8 (by decide) (by decide)) (r 10 (by decide) (by decide)) (r 57 (by decide) (by decide)) h.ru
  · intro w w0 w1
    rw [h6] at w1
    obtain ⟨t0, u, x, y⟩ := h.wd w w0 w1
    rw [e7, e49 11 (by decide), e55, r 56 (by decide) (by decide), r 3 (by decide) (by decide), r (67 + w) (by omega) (by omega)]
    refine ⟨t0, fun q => ?_, x, y⟩
    obtain ⟨u1, u2, u3, u4⟩ := u q
    exact ⟨u1, by omega, u3, u4⟩
  · unfold CPo
    rw [h6, e7, e6, e55, r 0 (by decide) (by decide), e49 8 (by decide), e49 9 (by decide), e49 11 (by decide), e49 12 (by decide), e49 13 (by decide), e11 7 (by decide), e11 3 (by decide), e11 4 (by decide), e11 2 (by decide), e11 8 (by decide), e11 9 (by decide), e11 5 (by decide)]
    refine ⟨p1, rfl, p3, p4, p5, p6, p7, p8, p9, ?_⟩
    rcases p10 with c | ⟨a, b, c, d, e⟩
    · exact Or.inl c
    · exact Or.inr ⟨a, b, c, d, hp (by omega)⟩
  · exact CTu_of h6 (e49 11 (by decide)) e55 (r 56 (by decide) (by decide)) (r 17 (by decide) (by decide)) (fun w a b => by rw [r (67 + w) (by omega) (by omega)]) h.tu
  · unfold EW; rw [h6, e55, r 14 (by decide) (by decide), r 13 (by decide) (by decide)]; exact h.ew
  · unfold EM; rw [h6, e55, r 16 (by decide) (by decide), r 15 (by decide) (by decide)]; exact h.em
  · rw [r 13 (by decide) (by decide)]; exact h.z
  · unfold CHc; rw [h6, e55]; exact h.hc
theorem enm_c {p q : Int → Prop} {m n : Int} {row : Int → Int} (h : enm p m row n) (hq : ∀ w : Int, 0 ≤ w → w < m → (q w ↔ p w)) : enm q m row n := by
  refine ⟨by rw [h.1]; exact cntW_c (fun w a b => (hq w a (by omega)).symm), fun w a b c => ?_⟩
  rw [cntW_c (p := q) (q := p) (fun w' a' b' => hq w' a' (by omega))]
  exact h.2 w a b ((hq w a b).mp c)
theorem Ivx.fin {K : Mm} {N T p s ln : Int} (h : Ivx 24 K N) (hp : K 49 9 = p) (h9 : p ≠ -4) (hs : s = K 55 (13 * p + 6)) (hl : ln = K 55 (13 * p + 1)) (hT : T = K 55 (13 * p + 10) + ln) (ht2 : T ≤ 99999) : Ivx 24 (mix (up (gFin (up K 11 6 T)) (25 + 2 * s) 5 (K (25 + 2 * s) 5 + ln)) (gLeave (up K 49 7 T))) N := by
  obtain ⟨m1, m2, m3, m4, m5, m6, m7⟩ := h.sn
  obtain ⟨p1, p2, p3, p4, p5, p6, p7, p8, p9, p10⟩ := h.po
  rw [hp] at p10 m7
  obtain ⟨a9, b9, c9, d9, e9⟩ : (0 ≤ p ∧ p < K 49 6) ∧ K 11 5 = 67 + p ∧ K 55 (13 * p + 9) = 1 ∧ (∀ w : Int, 0 ≤ w → w < K 49 6 → K 55 (13 * w + 9) = 1 → w = p) ∧ K 49 7 < K 55 (13 * p + 10) + K 55 (13 * p + 1) := by
    rcases p10 with c | c
    · exact absurd c.1 h9
    · exact c
  have hsp := h.sw p a9.1 a9.2
  have hwp := h.wd p a9.1 a9.2
  have hss : 0 ≤ s ∧ s ≤ 7 := by rw [hs]; exact hsp.2.2.2.2.2.2.1
  have e8 := hwp.1.2.2.2.2.2.2.2.2.2.1
  have f9 : up K 49 7 T 49 9 = p := by rw [up_k (by decide)]; exact hp
  have f5 : up K 11 6 T 11 5 = 67 + p := by rw [up_k (by decide)]; exact b9
  have f55 : ∀ q : Int, up K 49 7 T 55 q = K 55 q := fun q => up_c (by decide)
  unfold gFin gLeave
  rw [f9, f5, f55, f55, f55, ← hs, ← hl, up_s, up_c (a := 49) (a' := 54) (by decide), up_c (a := 11) (a' := 67 + p) (k' := 8) (by omega), up_k (a := 11) (k := 6) (k' := 8) (by decide), e8]
  have hr : ∀ a q : Int, ¬ (a = 67 + p ∧ q = 10) → ¬ (a = 11 ∧ (q = 5 ∨ q = 6 ∨ q = 7 ∨ q = 8)) → ¬ (a = 25 + 2 * s ∧ q = 5) → ¬ (a = 55 ∧ (q = 13 * p + 9 ∨ q = 13 * p + 11)) → ¬ (a = 49 ∧ (q = 7 ∨ q = 8 ∨ q = 9)) → ¬ (a = 54 ∧ q = s) → mix (up (up (up (up (up (up K 11 6 T) (67 + p) 10 2) 11 7 (K 55 (13 * p + 5))) 11 8 (K 11 8 + 1)) 11 5 (-1)) (25 + 2 * s) 5 (K (25 + 2 * s) 5 + ln)) (up (up (up (up (up (up K 49 7 T) 55 (13 * p + 9) 2) 55 (13 * p + 11) T) 49 8 (K 55 (13 * p + 5))) 54 s (K 54 s + ln)) 49 9 (-4)) a q = K a q := by
    intro a q h1 h2 h3 h4 h5 h6
    by_cases c : 49 ≤ a ∧ a ≤ 66
    · rw [mix_g c, up_n (by omega), up_n (by omega), up_n (by omega), up_n (by omega), up_n (by omega), up_n (by omega)]
    · rw [mix_m (by omega), up_n (by omega), up_n (by omega), up_n (by omega), up_n (by omega), up_n (by omega), up_n (by omega)]
  have w10 : mix (up (up (up (up (up (up K 11 6 T) (67 + p) 10 2) 11 7 (K 55 (13 * p + 5))) 11 8 (K 11 8 + 1)) 11 5 (-1)) (25 + 2 * s) 5 (K (25 + 2 * s) 5 + ln)) (up (up (up (up (up (up K 49 7 T) 55 (13 * p + 9) 2) 55 (13 * p + 11) T) 49 8 (K 55 (13 * p + 5))) 54 s (K 54 s + ln)) 49 9 (-4)) (67 + p) 10 = 2 := by
    rw [mix_m (by omega), up_c (by omega), up_c (by omega), up_c (by omega), up_c (by omega), up_s]
  have e115 : mix (up (up (up (up (up (up K 11 6 T) (67 + p) 10 2) 11 7 (K 55 (13 * p + 5))) 11 8 (K 11 8 + 1)) 11 5 (-1)) (25 + 2 * s) 5 (K (25 + 2 * s) 5 + ln)) (up (up (up (up (up (up K 49 7 T) 55 (13 * p + 9) 2) 55 (13 * p + 11) T) 49 8 (K 55 (13 * p + 5))) 54 s (K 54 s + ln)) 49 9 (-4)) 11 5 = -1 := by
    rw [mm11, up_c (by omega), up_s]
  have e116 : mix (up (up (up (up (up (up K 11 6 T) (67 + p) 10 2) 11 7 (K 55 (13 * p + 5))) 11 8 (K 11 8 + 1)) 11 5 (-1)) (25 + 2 * s) 5 (K (25 + 2 * s) 5 + ln)) (up (up (up (up (up (up K 49 7 T) 55 (13 * p + 9) 2) 55 (13 * p + 11) T) 49 8 (K 55 (13 * p + 5))) 54 s (K 54 s + ln)) 49 9 (-4)) 11 6 = T := by
    rw [mm11, up_c (by omega), up_k (by decide), up_k (by decide), up_k (by decide), up_c (by omega), up_s]
  have e117 : mix (up (up (up (up (up (up K 11 6 T) (67 + p) 10 2) 11 7 (K 55 (13 * p + 5))) 11 8 (K 11 8 + 1)) 11 5 (-1)) (25 + 2 * s) 5 (K (25 + 2 * s) 5 + ln)) (up (up (up (up (up (up K 49 7 T) 55 (13 * p + 9) 2) 55 (13 * p + 11) T) 49 8 (K 55 (13 * p + 5))) 54 s (K 54 s + ln)) 49 9 (-4)) 11 7 = K 55 (13 * p + 5) := by
    rw [mm11, up_c (by omega), up_k (by decide), up_k (by decide), up_s]
  have e118 : mix (up (up (up (up (up (up K 11 6 T) (67 + p) 10 2) 11 7 (K 55 (13 * p + 5))) 11 8 (K 11 8 + 1)) 11 5 (-1)) (25 + 2 * s) 5 (K (25 + 2 * s) 5 + ln)) (up (up (up (up (up (up K 49 7 T) 55 (13 * p + 9) 2) 55 (13 * p + 11) T) 49 8 (K 55 (13 * p + 5))) 54 s (K 54 s + ln)) 49 9 (-4)) 11 8 = K 11 8 + 1 := by
    rw [mm11, up_c (by omega), up_k (by decide), up_s]
  have e25 : mix (up (up (up (up (up (up K 11 6 T) (67 + p) 10 2) 11 7 (K 55 (13 * p + 5))) 11 8 (K 11 8 + 1)) 11 5 (-1)) (25 + 2 * s) 5 (K (25 + 2 * s) 5 + ln)) (up (up (up (up (up (up K 49 7 T) 55 (13 * p + 9) 2) 55 (13 * p + 11) T) 49 8 (K 55 (13 * p + 5))) 54 s (K 54 s + ln)) 49 9 (-4)) (25 + 2 * s) 5 = K (25 + 2 * s) 5 + ln := by
    rw [mix_m (by omega), up_s]
  have ev : mix (up (up (up (up (up (up K 11 6 T) (67 + p) 10 2) 11 7 (K 55 (13 * p + 5))) 11 8 (K 11 8 + 1)) 11 5 (-1)) (25 + 2 * s) 5 (K (25 + 2 * s) 5 + ln)) (up (up (up (up (up (up K 49 7 T) 55 (13 * p + 9) 2) 55 (13 * p + 11) T) 49 8 (K 55 (13 * p + 5))) 54 s (K 54 s + ln)) 49 9 (-4)) 55 (13 * p + 9) = 2 := by
    rw [mg55, up_c (by decide), up_c (by decide), up_c (by decide), up_k (by omega), up_s]
  have ev11 : mix (up (up (up (up (up (up K 11 6 T) (67 + p) 10 2) 11 7 (K 55 (13 * p + 5))) 11 8 (K 11 8 + 1)) 11 5 (-1)) (25 + 2 * s) 5 (K (25 + 2 * s) 5 + ln)) (up (up (up (up (up (up K 49 7 T) 55 (13 * p + 9) 2) 55 (13 * p + 11) T) 49 8 (K 55 (13 * p + 5))) 54 s (K 54 s + ln)) 49 9 (-4)) 55 (13 * p + 11) = T := by
    rw [mg55, up_c (by decide), up_c (by decide), up_c (by decide), up_s]
  have e497 : mix (up (up (up (up (up (up K 11 6 T) (67 + p) 10 2) 11 7 (K 55 (13 * p + 5))) 11 8 (K 11 8 + 1)) 11 5 (-1)) (25 + 2 * s) 5 (K (25 + 2 * s) 5 + ln)) (up (up (up (up (up (up K 49 7 T) 55 (13 * p + 9) 2) 55 (13 * p + 11) T) 49 8 (K 55 (13 * p + 5))) 54 s (K 54 s + ln)) 49 9 (-4)) 49 7 = T := by
    rw [mg49, up_k (by decide), up_c (by decide), up_k (by decide), up_c (by decide), up_c (by decide), up_s]
  have e498 : mix (up (up (up (up (up (up K 11 6 T) (67 + p) 10 2) 11 7 (K 55 (13 * p + 5))) 11 8 (K 11 8 + 1)) 11 5 (-1)) (25 + 2 * s) 5 (K (25 + 2 * s) 5 + ln)) (up (up (up (up (up (up K 49 7 T) 55 (13 * p + 9) 2) 55 (13 * p + 11) T) 49 8 (K 55 (13 * p + 5))) 54 s (K 54 s + ln)) 49 9 (-4)) 49 8 = K 55 (13 * p + 5) := by
    rw [mg49, up_k (by decide), up_c (by decide), up_s]
  have e499 : mix (up (up (up (up (up (up K 11 6 T) (67 + p) 10 2) 11 7 (K 55 (13 * p + 5))) 11 8 (K 11 8 + 1)) 11 5 (-1)) (25 + 2 * s) 5 (K (25 + 2 * s) 5 + ln)) (up (up (up (up (up (up K 49 7 T) 55 (13 * p + 9) 2) 55 (13 * p + 11) T) 49 8 (K 55 (13 * p + 5))) 54 s (K 54 s + ln)) 49 9 (-4)) 49 9 = -4 := by
    rw [mg49, up_s]
  have e54 : mix (up (up (up (up (up (up K 11 6 T) (67 + p) 10 2) 11 7 (K 55 (13 * p + 5))) 11 8 (K 11 8 + 1)) 11 5 (-1)) (25 + 2 * s) 5 (K (25 + 2 * s) 5 + ln)) (up (up (up (up (up (up K 49 7 T) 55 (13 * p + 9) 2) 55 (13 * p + 11) T) 49 8 (K 55 (13 * p + 5))) 54 s (K 54 s + ln)) 49 9 (-4)) 54 s = K 54 s + ln := by
    rw [mg54, up_c (by decide), up_s]
  generalize mix (up (up (up (up (up (up K 11 6 T) (67 + p) 10 2) 11 7 (K 55 (13 * p + 5))) 11 8 (K 11 8 + 1)) 11 5 (-1)) (25 + 2 * s) 5 (K (25 + 2 * s) 5 + ln)) (up (up (up (up (up (up K 49 7 T) 55 (13 * p + 9) 2) 55 (13 * p + 11) T) 49 8 (K 55 (13 * p + 5))) 54 s (K 54 s + ln)) 49 9 (-4)) = J at *
  have r : ∀ a : Int, a ≠ 67 + p → a ≠ 11 → a ≠ 25 + 2 * s → a ≠ 55 → a ≠ 49 → a ≠ 54 → J a = K a := fun a h1 h2 h3 h4 h5 h6 => funext fun q => hr a q (by omega) (by omega) (by omega) (by omega) (by omega) (by omega)
  have e49 : ∀ q : Int, q ≠ 7 → q ≠ 8 → q ≠ 9 → J 49 q = K 49 q := fun q h1 h2 h3 => hr 49 q (by omega) (by omega) (by omega) (by omega) (by omega) (by omega)
  have h6 : J 49 6 = K 49 6 := e49 6 (by decide) (by decide) (by decide)
  have e11 : ∀ q : Int, q ≠ 5 → q ≠ 6 → q ≠ 7 → q ≠ 8 → J 11 q = K 11 q := fun q h1 h2 h3 h4 => hr 11 q (by omega) (by omega) (by omega) (by omega) (by omega) (by omega)
  have e55 : ∀ w q : Int, 0 ≤ q → q ≤ 12 → q ≠ 9 → q ≠ 11 → J 55 (13 * w + q) = K 55 (13 * w + q) := fun w q q0 q1 q2 q3 => hr 55 _ (by omega) (by omega) (by omega) (by omega) (by omega) (by omega)
  have e559 : ∀ w : Int, w ≠ p → J 55 (13 * w + 9) = K 55 (13 * w + 9) := fun w hw => hr 55 _ (by omega) (by omega) (by omega) (by omega) (by omega) (by omega)
  have e5511 : ∀ w : Int, w ≠ p → J 55 (13 * w + 11) = K 55 (13 * w + 11) := fun w hw => hr 55 _ (by omega) (by omega) (by omega) (by omega) (by omega) (by omega)
  have h2 : ∀ (w x : Int), (x = 0 ∨ x = 3) → (J 55 (13 * w + 9) = x ↔ K 55 (13 * w + 9) = x) := fun w x hx => by
    by_cases c : w = p
    · rw [c, ev, c9]; omega
    · rw [e559 w c]
  have h12 : ∀ w : Int, (J 55 (13 * w + 9) = 1 ∨ J 55 (13 * w + 9) = 2) ↔ (K 55 (13 * w + 9) = 1 ∨ K 55 (13 * w + 9) = 2) := fun w => by
    by_cases c : w = p
    · rw [c, ev, c9]; omega
    · rw [e559 w c]
  have c3 : cntW (fun w => J 55 (13 * w + 9) = 3) (K 49 6).toNat = cntW (fun w => K 55 (13 * w + 9) = 3) (K 49 6).toNat := cntW_c fun w _ _ => h2 w 3 (Or.inr rfl)
  have c12 : cntW (fun w => J 55 (13 * w + 9) = 1 ∨ J 55 (13 * w + 9) = 2) (K 49 6).toNat = cntW (fun w => K 55 (13 * w + 9) = 1 ∨ K 55 (13 * w + 9) = 2) (K 49 6).toNat := cntW_c fun w _ _ => h12 w
  have c2 : cntW (fun w => J 55 (13 * w + 9) = 2) (K 49 6).toNat = cntW (fun w => K 55 (13 * w + 9) = 2) (K 49 6).toNat + 1 := by
    have := cntW_del (p := fun w => J 55 (13 * w + 9) = 2) (q := fun w => K 55 (13 * w + 9) = 2) (v := p) ev a9.1 (n := (K 49 6).toNat) (fun w a b => by
      by_cases c : w = p
      · rw [c, c9]; omega
      · rw [e559 w c]; exact ⟨fun x => ⟨x, c⟩, fun x => x.1⟩)
    rw [cif_t (by omega)] at this
    omega
  have d : ∀ a : Int, a < 67 → (a < 25 ∨ 40 < a) → a ≠ 11 → a ≠ 55 → a ≠ 49 → a ≠ 54 → J a = K a := fun a h0 h1 h2 h3 h4 h5 => r a (by omega) h2 (by omega) h3 h4 h5
  refine ⟨by rw [h6]; exact h.n, ?_, ?_, ?_, ?_, ?_, ?_, ?_, ?_, ?_, ?_, ?_, ?_, ?_, ?_, ?_⟩
  · unfold SN; rw [h6, e497, e498, e499, e49 12 (by decide) (by decide) (by decide), e49 13 (by decide) (by decide) (by decide), e49 20 (by decide) (by decide) (by decide)]
    have := hsp.2.2.2.2.2.1
    exact ⟨m1, by omega, this, m4, m5, m6, Or.inl rfl⟩
  · intro x x0 x1
    have hx := h.ss x x0 x1
    rw [h6, c2, d 51 (by decide) (by decide) (by decide) (by decide) (by decide) (by decide), d 52 (by decide) (by decide) (by decide) (by decide) (by decide) (by decide), d 53 (by decide) (by decide) (by decide) (by decide) (by decide) (by decide)]
    have hl2 := hsp.2.1
    by_cases c : x = s
    · rw [c] at hx ⊢
      rw [e54]; omega
    · rw [hr 54 x (by omega) (by omega) (by omega) (by omega) (by omega) (by omega)]; omega
  · intro w w0 w1
    rw [h6] at w1
    have := h.sw w w0 w1
    rw [h6, e497, e55 w 0 (by decide) (by decide) (by decide) (by decide), e55 w 1 (by decide) (by decide) (by decide) (by decide), e55 w 2 (by decide) (by decide) (by decide) (by decide), e55 w 3 (by decide) (by decide) (by decide) (by decide), e55 w 4 (by decide) (by decide) (by decide) (by decide), e55 w 5 (by decide) (by decide) (by decide) (by decide), e55 w 6 (by decide) (by decide) (by decide) (by decide), e55 w 7 (by decide) (by decide) (by decide) (by decide), e55 w 8 (by decide) (by decide) (by decide) (by decide), e55 w 12 (by decide) (by decide) (by decide) (by decide)]
    obtain ⟨t1, t2, t3, t4, t5, t6, t7, t8, t9, t10, t11⟩ := this
    refine ⟨t1, t2, by omega, by omega, t5, t6, t7, t8, t9, ?_, t11⟩
    by_cases c : w = p
    · rw [c, ev]; omega
    · rw [e559 w c]; exact t10
  · unfold SetOK; rw [d 50 (by decide) (by decide) (by decide) (by decide) (by decide) (by decide)]; exact h.set
  · intro x x0 x1
    have hx := h.st x x0 x1
    rw [d 50 (by decide) (by decide) (by decide) (by decide) (by decide) (by decide), d 51 (by decide) (by decide) (by decide) (by decide) (by decide) (by decide), d 52 (by decide) (by decide) (by decide) (by decide) (by decide) (by decide), d 53 (by decide) (by decide) (by decide) (by decide) (by decide) (by decide), hr (25 + 2 * x) 2 (by omega) (by omega) (by omega) (by omega) (by omega) (by omega), hr (25 + 2 * x) 3 (by omega) (by omega) (by omega) (by omega) (by omega) (by omega), hr (25 + 2 * x) 4 (by omega) (by omega) (by omega) (by omega) (by omega) (by omega)]
    refine ⟨fun k a b => ?_, hx.2.1, hx.2.2.1, hx.2.2.2.1, ?_⟩
    · rw [hr (26 + 2 * x) k (by omega) (by omega) (by omega) (by omega) (by omega) (by omega)]; exact hx.1 k a b
    · by_cases c : x = s
      · rw [c] at hx ⊢
        rw [e25, e54, hx.2.2.2.2]
      · rw [hr (25 + 2 * x) 5 (by omega) (by omega) (by omega) (by omega) (by omega) (by omega), hr 54 x (by omega) (by omega) (by omega) (by omega) (by omega) (by omega)]; exact hx.2.2.2.2
  · exact CSh_of h.sh (fun a q ha => hr a q (by omega) (by omega) (by omega) (by omega) (by omega) (by omega))
  · exact CTp_of (by rw [d 4 (by decide) (by decide) (by decide) (by decide) (by decide) (by decide)]) (e49 20 (by decide) (by decide) (by decide)) (d 5 (by decide) (by decide) (by decide) (by decide) (by decide) (by decide)) (d 62 (by decide) (by decide) (by decide) (by decide) (by decide) (by decide)) (d 6 (by decide) (by decide) (by decide) (by decide) (by decide) (by decide)) h.tp
  · exact CRu_of (d 8 (by decide) (by decide) (by decide) (by decide) (by decide) (by decide)) (d 10 (by decide) (by decide) (by decide) (by decide) (by decide) (by decide)) (d 57 (by decide) (by decide) (by decide) (by decide) (by decide) (by decide)) h.ru
  · intro w w0 w1
    rw [h6] at w1
    obtain ⟨⟨t0, t1, t2, t3, t4, t5, t6, t7, t8, t9, t10, t11⟩, u, x, y⟩ := h.wd w w0 w1
    have rw_ : ∀ q : Int, q ≠ 10 → J (67 + w) q = K (67 + w) q := fun q h1 => hr _ q (by omega) (by omega) (by omega) (by omega) (by omega) (by omega)
    rw [e497, e49 11 (by decide) (by decide) (by decide), d 56 (by decide) (by decide) (by decide) (by decide) (by decide) (by decide), d 3 (by decide) (by decide) (by decide) (by decide) (by decide) (by decide), rw_ 0 (by decide), rw_ 1 (by decide), rw_ 2 (by decide), rw_ 3 (by decide), rw_ 4 (by decide), rw_ 5 (by decide), rw_ 6 (by decide), rw_ 7 (by decide), rw_ 8 (by decide), rw_ 9 (by decide), rw_ 11 (by decide), rw_ 12 (by decide), e55 w 0 (by decide) (by decide) (by decide) (by decide), e55 w 1 (by decide) (by decide) (by decide) (by decide), e55 w 2 (by decide) (by decide) (by decide) (by decide), e55 w 3 (by decide) (by decide) (by decide) (by decide), e55 w 4 (by decide) (by decide) (by decide) (by decide), e55 w 5 (by decide) (by decide) (by decide) (by decide), e55 w 6 (by decide) (by decide) (by decide) (by decide), e55 w 7 (by decide) (by decide) (by decide) (by decide), e55 w 8 (by decide) (by decide) (by decide) (by decide), e55 w 10 (by decide) (by decide) (by decide) (by decide)]
    by_cases c : w = p
    · rw [c] at t0 t1 t2 t3 t4 t5 t6 t7 t8 t9 t10 u ⊢
      obtain ⟨u1, u2, u3, u4⟩ := u (Or.inl c9)
      rw [ev, w10, ev11]
      exact ⟨⟨t0, t1, t2, t3, t4, t5, t6, t7, t8, t9, t10, rfl⟩, fun _ => ⟨u1, by omega, u3, u4⟩, fun q => by omega, fun _ => by omega⟩
    · rw [e559 w c, e5511 w c, hr (67 + w) 10 (by omega) (by omega) (by omega) (by omega) (by omega) (by omega)]
      refine ⟨⟨t0, t1, t2, t3, t4, t5, t6, t7, t8, t9, t10, t11⟩, fun q => ?_, x, y⟩
      obtain ⟨u1, u2, u3, u4⟩ := u q
      exact ⟨u1, by omega, u3, u4⟩
  · unfold CPo
    rw [h6, c2, c3, c12, e497, e498, e499, e115, e116, e117, e118, d 0 (by decide) (by decide) (by decide) (by decide) (by decide) (by decide), e11 3 (by decide) (by decide) (by decide) (by decide), e11 4 (by decide) (by decide) (by decide) (by decide), e11 2 (by decide) (by decide) (by decide) (by decide), e11 9 (by decide) (by decide) (by decide) (by decide), e49 11 (by decide) (by decide) (by decide), e49 12 (by decide) (by decide) (by decide), e49 13 (by decide) (by decide) (by decide)]
    refine ⟨p1, rfl, rfl, p4, p5, p6, by omega, p8, p9, Or.inl ⟨rfl, rfl, fun w w0 w1 x => ?_⟩⟩
    by_cases c : w = p
    · rw [c, ev] at x; omega
    · rw [e559 w c] at x; exact c (d9 w w0 w1 x)
  · intro i i0 i1
    rw [e49 11 (by decide) (by decide) (by decide)] at i1
    have t := h.tu i i0 i1
    rw [h6, d 56 (by decide) (by decide) (by decide) (by decide) (by decide) (by decide), d 17 (by decide) (by decide) (by decide) (by decide) (by decide) (by decide), h12, hr (67 + K 56 i) 12 (by omega) (by omega) (by omega) (by omega) (by omega) (by omega)]
    exact t
  · unfold EW
    rw [h6, d 14 (by decide) (by decide) (by decide) (by decide) (by decide) (by decide), d 13 (by decide) (by decide) (by decide) (by decide) (by decide) (by decide)]
    exact enm_c h.ew (fun w _ _ => h2 w 0 (Or.inl rfl))
  · unfold EM
    rw [h6, d 16 (by decide) (by decide) (by decide) (by decide) (by decide) (by decide), d 15 (by decide) (by decide) (by decide) (by decide) (by decide) (by decide)]
    exact enm_c h.em (fun w _ _ => by rw [e55 w 12 (by decide) (by decide) (by decide) (by decide)])
  · rw [d 13 (by decide) (by decide) (by decide) (by decide) (by decide) (by decide)]; exact h.z
  · intro x
    rw [h6, cntW_c (p := fun w => J 55 (13 * w + 12) = 1 ∧ J 55 (13 * w + 8) = x) (q := fun w => K 55 (13 * w + 12) = 1 ∧ K 55 (13 * w + 8) = x) (fun w _ _ => by rw [e55 w 12 (by decide) (by decide) (by decide) (by decide), e55 w 8 (by decide) (by decide) (by decide) (by decide)]), cntW_c (p := fun w => J 55 (13 * w + 9) = 0 ∧ J 55 (13 * w + 8) = x) (q := fun w => K 55 (13 * w + 9) = 0 ∧ K 55 (13 * w + 8) = x) (fun w _ _ => by rw [h2 w 0 (Or.inl rfl), e55 w 8 (by decide) (by decide) (by decide) (by decide)])]
    exact h.hc x
