/-! ===== one leaves a line, one comes ===== -/
theorem enm_del {p q : Int → Prop} {m n v : Int} {row row' : Int → Int} (h : enm p m row n) (hv : p v) (h0 : 0 ≤ v) (h1 : v < m) (hq : ∀ w : Int, 0 ≤ w → w < m → (q w ↔ p w ∧ w ≠ v)) (hr : ∀ j : Int, 0 ≤ j → j < n - 1 → row' j = cif (cntW p v.toNat ≤ j) (row (j + 1)) (row j)) : enm q m row' (n - 1) := by
  have hn := h.1
  have hd := cntW_del hv h0 (n := m.toNat) (fun w a b => hq w a (by omega))
  rw [cif_t (by omega)] at hd
  refine ⟨by omega, fun w a b c => ?_⟩
  have hpw := (hq w a b).mp c
  have hlt := cntW_lt (p := q) (n := m.toNat) a (by omega) c
  have hdw := cntW_del hv h0 (n := w.toNat) (fun w' a' b' => hq w' a' (by omega))
  have hb := cntW_b q w.toNat
  rw [hr _ hb.1 (by omega)]
  by_cases e : v < w
  · have h2 := cntW_lt (p := p) (n := w.toNat) h0 (by omega) hv
    rw [cif_t (by omega)] at hdw
    rw [cif_t (by omega), show cntW q w.toNat + 1 = cntW p w.toNat by omega]
    exact h.2 w a b hpw.1
  · have h2 := cntW_lt (p := p) (n := v.toNat) a (by omega) hpw.1
    rw [cif_f (by omega)] at hdw
    rw [cif_f (by omega), show cntW q w.toNat = cntW p w.toNat by omega]
    exact h.2 w a b hpw.1
/-- where one stands in its line -/
theorem enm_fst {p : Int → Prop} {m n v : Int} {row : Int → Int} (h : enm p m row n) (hm : 0 ≤ m) (h0 : 0 ≤ v) (h1 : v < m) : (p v → fstA (fun i => row i = 67 + v) n.toNat = cntW p v.toNat) ∧ (¬ p v → fstA (fun i => row i = 67 + v) n.toNat = -1) := by
  have hn := h.1
  constructor
  · intro hv
    have hb := cntW_b p v.toNat
    have hl := cntW_lt (p := p) (n := m.toNat) h0 (by omega) hv
    refine fstA_some hb.1 (h.2 v h0 h1 hv) (fun j a b e => ?_) (by omega)
    obtain ⟨w, w0, w1, w2, w3, w4⟩ := h.at hm a (show j < n by omega)
    have : w = v := by omega
    rw [this] at w3
    omega
  · intro hv
    refine fstA_none (fun j a b e => ?_)
    obtain ⟨w, w0, w1, w2, w3, w4⟩ := h.at hm a (show j < n by omega)
    have : w = v := by omega
    rw [this] at w2
    exact hv w2
/-- a new one behind all -/
theorem enm_add {p q : Int → Prop} {m n : Int} {row row' : Int → Int} (h : enm p m row n) (hm : 0 ≤ m) (hq : ∀ w : Int, 0 ≤ w → w < m → (q w ↔ p w)) (hqm : q m) (hr : ∀ j : Int, 0 ≤ j → j < n → row' j = row j) (hrn : row' n = 67 + m) : enm q (m + 1) row' (n + 1) := by
  have hn := h.1
  have e := cntW_s q hm
  have ec : cntW q m.toNat = cntW p m.toNat := cntW_c (fun w a b => hq w a (by omega))
  rw [cif_t hqm, ec] at e
  refine ⟨by omega, fun w a b c => ?_⟩
  have ew : cntW q w.toNat = cntW p w.toNat := cntW_c (fun w' a' b' => hq w' a' (by omega))
  rw [ew]
  by_cases d : w = m
  · rw [d, ← hn]; exact hrn
  · have hpw := (hq w a (by omega)).mp c
    have hl := cntW_lt (p := p) (n := m.toNat) a (by omega) hpw
    have hb := cntW_b p w.toNat
    rw [hr _ hb.1 (by omega)]
    exact h.2 w a (by omega) hpw
