/-! ===== for the calls that change something ===== -/
theorem told_ok {k v : Int} (h0 : 0 ≤ k) (h1 : k ≤ 6) : (lstT.getD k.toNat 0 ≤ v ∧ v ≤ mstT.getD k.toNat 0 ↔ okSet k v) ∧ (0 ≤ lstT.getD k.toNat 0 ∧ lstT.getD k.toNat 0 ≤ 1) ∧ (0 ≤ mstT.getD k.toNat 0 ∧ mstT.getD k.toNat 0 ≤ 999) := by
  have : k = 0 ∨ k = 1 ∨ k = 2 ∨ k = 3 ∨ k = 4 ∨ k = 5 ∨ k = 6 := by omega
  unfold okSet
  rcases this with rfl | rfl | rfl | rfl | rfl | rfl | rfl
  · show (0 ≤ v ∧ v ≤ 9 ↔ _) ∧ (0 ≤ (0 : Int) ∧ (0 : Int) ≤ 1) ∧ (0 ≤ (9 : Int) ∧ (9 : Int) ≤ 999); omega
  · show (1 ≤ v ∧ v ≤ 16 ↔ _) ∧ (0 ≤ (1 : Int) ∧ (1 : Int) ≤ 1) ∧ (0 ≤ (16 : Int) ∧ (16 : Int) ≤ 999); omega
  · show (0 ≤ v ∧ v ≤ 999 ↔ _) ∧ (0 ≤ (0 : Int) ∧ (0 : Int) ≤ 1) ∧ (0 ≤ (999 : Int) ∧ (999 : Int) ≤ 999); omega
  · show (0 ≤ v ∧ v ≤ 99 ↔ _) ∧ (0 ≤ (0 : Int) ∧ (0 : Int) ≤ 1) ∧ (0 ≤ (99 : Int) ∧ (99 : Int) ≤ 999); omega
  · show (0 ≤ v ∧ v ≤ 3 ↔ _) ∧ (0 ≤ (0 : Int) ∧ (0 : Int) ≤ 1) ∧ (0 ≤ (3 : Int) ∧ (3 : Int) ≤ 999); omega
  · show (0 ≤ v ∧ v ≤ 999 ↔ _) ∧ (0 ≤ (0 : Int) ∧ (0 : Int) ≤ 1) ∧ (0 ≤ (999 : Int) ∧ (999 : Int) ≤ 999); omega
  · show (0 ≤ v ∧ v ≤ 16 ↔ _) ∧ (0 ≤ (0 : Int) ∧ (0 : Int) ≤ 1) ∧ (0 ≤ (16 : Int) ∧ (16 : Int) ≤ 999); omega
section RC
variable {t u : Int → Int} {n : Int} (h : ∀ q : Int, 0 ≤ q → q < n → t q = u q)
theorem skq_c (h : ∀ q : Int, 0 ≤ q → q < n → t q = u q) : ∀ (f : Nat) (a : Int), 0 ≤ a → skq t n f a = skq u n f a
  | 0, a, _ => rfl
  | f + 1, a, ha => by
    rw [skq, skq]
    by_cases c : a < n
    · rw [h a ha c, skq_c h f (a + 1) (by omega)]
    · rw [cif_f (fun x => c x.1), cif_f (fun x => c x.1)]
theorem skf_c (h : ∀ q : Int, 0 ≤ q → q < n → t q = u q) {a : Int} (ha : 0 ≤ a) : skf t n a = skf u n a := skq_c h _ a ha
theorem sgn_c (h : ∀ q : Int, 0 ≤ q → q < n → t q = u q) {a : Int} (ha : 0 ≤ a) : sgn t n a = sgn u n a := by
  unfold sgn
  by_cases c : a < n
  · rw [cif_t c, cif_t c, h a ha c]
  · rw [cif_f c, cif_f c]
theorem dgt_c (h : ∀ q : Int, 0 ≤ q → q < n → t q = u q) : ∀ (f : Nat) (v a : Int), 0 ≤ a → dgt t n f v a = dgt u n f v a
  | 0, v, a, _ => rfl
  | f + 1, v, a, ha => by
    rw [dgt, dgt]
    by_cases c : a < n
    · rw [h a ha c, dgt_c h f _ (a + 1) (by omega)]
    · rw [cif_f (fun x => c x.1), cif_f (fun x => c x.1)]
theorem nbr_c (h : ∀ q : Int, 0 ≤ q → q < n → t q = u q) {a : Int} (ha : 0 ≤ a) (hn : a ≤ n) : nbr t n a = nbr u n a := by
  have hs := skf_R (t := t) hn
  unfold skR at hs
  have e := skf_c h ha
  have e2 := dgt_c h 40 0 (skf t n a) (by omega)
  unfold nbr
  rw [← e, ← e2]
  by_cases c : skf t n a < n
  · rw [h _ (by omega) c]
  · rw [cif_f (fun x => c x.1), cif_f (fun x => c x.1)]
theorem trm_c (h : ∀ q : Int, 0 ≤ q → q < n → t q = u q) {a : Int} (k : Int) (ha : 0 ≤ a) (hn : a ≤ n) : trm t n k a = trm u n k a := by
  have hs := skf_R (t := t) hn
  unfold skR at hs
  have e := skf_c h ha
  have es := sgn_c h (a := skf t n a) (by omega)
  unfold trm
  rw [← e, ← es]
  by_cases c : k = 6 ∨ (0 < k ∧ ¬ (sgn t n (skf t n a) = 43 ∨ sgn t n (skf t n a) = 45))
  · rw [cif_t c, cif_t c]
  · rw [cif_f c, cif_f c]
    dsimp only
    have hlt : (sgn t n (skf t n a) = 43 ∨ sgn t n (skf t n a) = 45) → skf t n a < n := by
      intro q
      unfold sgn at q
      by_cases c2 : skf t n a < n
      · exact c2
      · rw [cif_f c2] at q; omega
    have h2 : 0 ≤ skf t n a + cif (sgn t n (skf t n a) = 43 ∨ sgn t n (skf t n a) = 45) 1 0 ∧ skf t n a + cif (sgn t n (skf t n a) = 43 ∨ sgn t n (skf t n a) = 45) 1 0 ≤ n := by
      by_cases c2 : sgn t n (skf t n a) = 43 ∨ sgn t n (skf t n a) = 45
      · rw [cif_t c2]; have := hlt c2; omega
      · rw [cif_f c2]; omega
    generalize skf t n a + cif (sgn t n (skf t n a) = 43 ∨ sgn t n (skf t n a) = 45) 1 0 = a2 at h2 ⊢
    have hb := nbr_b (t := t) h2.2
    rw [← nbr_c h h2.1 h2.2]
    have hs2 := skf_R (t := t) (n := n) (a := (nbr t n a2).2) hb.2.2.2
    unfold skR at hs2
    rw [← skf_c h (a := (nbr t n a2).2) (by omega), ← sgn_c h (a := skf t n (nbr t n a2).2) (by omega)]
theorem trm_le {a : Int} (k : Int) (h0 : 0 ≤ a) (h1 : a ≤ n) (hf : (trm t n k a).1 ≠ -1) : (trm t n k a).2.1 ≤ n := by
  have hs := skf_R (t := t) h1
  unfold skR at hs
  unfold trm at hf ⊢
  by_cases c : k = 6 ∨ (0 < k ∧ ¬ (sgn t n (skf t n a) = 43 ∨ sgn t n (skf t n a) = 45))
  · rw [cif_t c] at hf; exact absurd rfl hf
  · rw [cif_f c] at hf ⊢
    dsimp only at hf ⊢
    have hlt : (sgn t n (skf t n a) = 43 ∨ sgn t n (skf t n a) = 45) → skf t n a < n := by
      intro q
      unfold sgn at q
      by_cases c2 : skf t n a < n
      · exact c2
      · rw [cif_f c2] at q; omega
    have h2 : 0 ≤ skf t n a + cif (sgn t n (skf t n a) = 43 ∨ sgn t n (skf t n a) = 45) 1 0 ∧ skf t n a + cif (sgn t n (skf t n a) = 43 ∨ sgn t n (skf t n a) = 45) 1 0 ≤ n := by
      by_cases c2 : sgn t n (skf t n a) = 43 ∨ sgn t n (skf t n a) = 45
      · rw [cif_t c2]; have := hlt c2; omega
      · rw [cif_f c2]; omega
    generalize skf t n a + cif (sgn t n (skf t n a) = 43 ∨ sgn t n (skf t n a) = 45) 1 0 = a2 at h2 hf ⊢
    have hb := nbr_b (t := t) h2.2
    have hs2 := skf_R (t := t) (n := n) (a := (nbr t n a2).2) hb.2.2.2
    unfold skR at hs2
    by_cases c3 : (nbr t n a2).1 = 0
    · rw [cif_t c3] at hf; exact absurd rfl hf
    · rw [cif_f c3] at hf ⊢
      by_cases c4 : nmF (sgn t n (skf t n (nbr t n a2).2)) = -4
      · rw [cif_t c4] at hf; exact absurd rfl hf
      · rw [cif_f c4]
        dsimp only
        by_cases c5 : skf t n (nbr t n a2).2 < n
        · omega
        · exfalso
          apply c4
          unfold sgn
          rw [cif_f c5]
          exact nmF_m4
theorem rd_c (h : ∀ q : Int, 0 ≤ q → q < n → t q = u q) : ∀ (f : Nat) (k a : Int) (wt : Int → Int), 0 ≤ a → a ≤ n → rd t n f k a wt = rd u n f k a wt
  | 0, k, a, wt, _, _ => rfl
  | f + 1, k, a, wt, ha, hn => by
    have hs := skf_R (t := t) hn
    unfold skR at hs
    rw [rd, rd, ← trm_c h k ha hn, ← skf_c h ha, ← sgn_c h (a := skf t n a) (by omega)]
    by_cases c : k ≠ 0 ∧ sgn t n (skf t n a) = -4
    · rw [cif_t c, cif_t c]
    · rw [cif_f c, cif_f c]
      by_cases c2 : (trm t n k a).1 = -1
      · rw [cif_t c2, cif_t c2]
      · rw [cif_f c2, cif_f c2, rd_c h f (k + 1) _ _ (trm_p t n k a ha hn) (trm_le k ha hn c2)]
end RC
theorem rdC_eq {I : Mm} {N : Int} (h : Inv I N) : rdC I = rdA I := by
  obtain ⟨h1, h2, -⟩ := h.tp
  have h3 := h.sn.2.2.2.2.2.1
  unfold rdC rdA
  rw [h1]
  exact rd_c (fun q a b => (h2 q a b).1) 7 0 0 _ (by omega) (by omega)
noncomputable def kSet (I : Mm) (s k v : Int) : Mm := cif ((0 ≤ s ∧ s ≤ 7) ∧ okSet k v) (up I (26 + 2 * s) k v) I
noncomputable def kFull (I : Mm) (k v : Int) : Mm := cif (k = 0 ∧ 1 ≤ v ∧ v ≤ 24) (up I 11 3 v) (cif (k = 1 ∧ 0 ≤ v ∧ v ≤ 2) (up I 11 4 v) I)
noncomputable def kSheet (I : Mm) (s lane n : Int) : Mm := cif ((0 ≤ s ∧ s ≤ 3) ∧ (0 ≤ lane ∧ lane ≤ 2) ∧ 0 ≤ n ∧ n ≤ 24) (up (up (filR I (42 + 2 * s) 24 0) (41 + 2 * s) 1 lane) (41 + 2 * s) 2 n) I
noncomputable def kDrop (I : Mm) (s : Int) : Mm := cif ((0 ≤ s ∧ s ≤ 3) ∧ I 58 s ≠ -4) (up I (41 + 2 * s) 1 (-1)) I
noncomputable def kItem (I : Mm) (s lane i v : Int) : Mm := cif ((0 ≤ s ∧ s ≤ 3) ∧ (0 ≤ lane ∧ lane ≤ 2) ∧ wrF I s lane i 1 = 1) (up I (42 + 2 * s) i (lnv lane v)) I
noncomputable def kCopy (I : Mm) (f i t j n : Int) : Mm := cif (okCopy I f i t j n) (upR I (42 + 2 * t) (fun q => if j ≤ q ∧ q < j + n then I (42 + 2 * f) (i + (q - j)) else I (42 + 2 * t) q)) I
noncomputable def kType (I : Mm) (w n : Int) : Mm := cif ((1 ≤ n ∧ n ≤ 8) ∧ okB w n ∧ I 49 20 + n ≤ 40) (gAppN I w n n.toNat) I
def kRuleR (I : Mm) (q : Int) (J : Mm) : Prop := (¬ (0 ≤ q ∧ q ≤ 1) → J = I) ∧ (0 ≤ q ∧ q ≤ 1 → J 4 1 = 0 ∧ (∀ k : Int, 0 ≤ k → k ≤ 5 → J (8 + 2 * q) k = cif (0 < (rdA I).1) ((rdA I).2 k) (I (8 + 2 * q) k)) ∧ (∀ k : Int, -600 ≤ J 6 k ∧ J 6 k ≤ 600) ∧ ∀ a k : Int, a ≠ 6 → a ≠ 8 + 2 * q → ¬ (a = 4 ∧ (k = 1 ∨ k = 2)) → J a k = I a k)
