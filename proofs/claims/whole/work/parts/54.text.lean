/-! ===== the letters of a rule: String.indexOf over "cltdnf" ===== -/
section VT
variable {x : Cx} {z : Nat} {own : String} {cc : ByteArray} {nL : Nat} {ret : Option FieldType} {fr lo mc ms : Nat} {Po : Pst} {N : Int} {I : Mm} {k n pc : Nat} {L : List (Option Value)} {st : List Value}
theorem V_aload_0q (hx : OK x z own cc nL ret fr lo mc ms) {r : List (Option Value)} {q : Nat} (hd : decode cc pc = .ok (.aload_n 0, 1)) (kk : V x z Po N I k n (pc + 1) (some (.ref q) :: r) (.ref q :: st)) : V x z Po N I k n pc (some (.ref q) :: r) st :=
  fun H locs ls hP hS hl => lv_aload_n hx.1 hx.2.1 hd rfl (hl.2.2 0 _ rfl) (kk H locs ls hP hS hl)
theorem V_breturn0 (hx : OK x z own cc nL (some .byte) fr lo mc ms) (hd : decode cc pc = .ok (.ireturn, 1)) (hk : k ≤ mc) (hn : n ≤ ms) (hq : Po (some (vI 0)) N I) : V x z Po N I k n pc L [vI 0] := by
  intro H locs ls hP hS hl
  obtain ⟨h1, h2, -, -, -, -, h7, h8, -, h10, h11, -⟩ := hx
  subst h10; subst h11
  refine W.widen hk hn ?_
  exact W.zret (hlocks := h8) h1 h2 h7 rfl (fun t ht _ => ⟨⟨_, N, I, rfl, hq, by rw [ht]; exact hP⟩, hS.F ht⟩) (fun q h => hS.2.2 q h) hd
end VT
theorem e_i1 : Value.int 1 = vI 1 := rfl
theorem e_i0 : Value.int 0 = vI 0 := rfl
theorem c_isLatin1 {l : Launch} {d : Dd} {z : Nat} {N : Int} {I : Mm} {e : Ee} (hE : HE d z e) : Cn l d z yJ0_isLatin1_aae02 cJ0_isLatin1_aae02 1 (some .boolean) 0 0 0 0 [.ref e.2.2.1] N I (pv (vI 1) N I) := by
  refine Cn.ofAF [(.ref e.2.2.1, false)] [some (.ref e.2.2.1)] RJ0 (by decide +kernel) rfl ⟨rfl, trivial⟩ (Nat.le_of_ble_eq_true rfl) rfl (fun x ed el hx hini => ?_)
  obtain ⟨-, -, -, -, -, ⟨s1, s2, s3, s4⟩, cs⟩ := hx.ex ed hE
  refine V_gets hx cs flJ0_38 dJ0_isLatin1_aae02_0 ?_
  rw [e_i1]
  refine V_if_eq (tgt := 17) hx dJ0_isLatin1_aae02_3 (by decide) (by omega) (fun h => by omega) (fun _ => ?_)
  refine V_aload_0q hx dJ0_isLatin1_aae02_6 ?_
  refine V_getO hx s2 flJ0_15 dJ0_isLatin1_aae02_7 ?_
  rw [e_i0]
  refine V_if_ne (tgt := 17) hx dJ0_isLatin1_aae02_10 (by decide) (by omega) (fun h => absurd rfl h) (fun _ => ?_)
  refine V_iconst hx dJ0_isLatin1_aae02_13 ?_
  refine V_goto (tgt := 18) hx dJ0_isLatin1_aae02_14 (by decide) ?_
  refine V_zreturn hx dJ0_isLatin1_aae02_18 (by omega) (by omega) (by omega) ?_
  exact ⟨rfl, rfl, rfl⟩
theorem c_coder {l : Launch} {d : Dd} {z : Nat} {N : Int} {I : Mm} {e : Ee} (hE : HE d z e) : Cn l d z yJ0_coder_7d493 cJ0_coder_7d493 1 (some .byte) 0 0 0 0 [.ref e.2.2.1] N I (pv (vI 0) N I) := by
  refine Cn.ofAF [(.ref e.2.2.1, false)] [some (.ref e.2.2.1)] RJ0 (by decide +kernel) rfl ⟨rfl, trivial⟩ (Nat.le_of_ble_eq_true rfl) rfl (fun x ed el hx hini => ?_)
  obtain ⟨-, -, -, -, -, ⟨s1, s2, s3, s4⟩, cs⟩ := hx.ex ed hE
  refine V_gets hx cs flJ0_38 dJ0_coder_7d493_0 ?_
  rw [e_i1]
  refine V_if_eq (tgt := 13) hx dJ0_coder_7d493_3 (by decide) (by omega) (fun h => by omega) (fun _ => ?_)
  refine V_aload_0q hx dJ0_coder_7d493_6 ?_
  refine V_getO hx s2 flJ0_15 dJ0_coder_7d493_7 ?_
  rw [e_i0]
  refine V_goto (tgt := 14) hx dJ0_coder_7d493_10 (by decide) ?_
  refine V_breturn0 hx dJ0_coder_7d493_14 (by omega) (by omega) ?_
  exact ⟨rfl, rfl, rfl⟩
theorem c_strLen {l : Launch} {d : Dd} {z : Nat} {N : Int} {I : Mm} {e : Ee} (hE : HE d z e) : Cn l d z yJ0_length_8abf5 cJ0_length_8abf5 1 (some .int) 1 20 0 0 [.ref e.2.2.1] N I (pv (vI 6) N I) := by
  refine Cn.ofAF [(.ref e.2.2.1, false)] [some (.ref e.2.2.1)] RJ0 (by decide +kernel) rfl ⟨rfl, trivial⟩ (Nat.le_of_ble_eq_true rfl) rfl (fun x ed el hx hini => ?_)
  obtain ⟨-, -, -, -, -, ⟨s1, s2, s3, s4⟩, cs⟩ := hx.ex ed hE
  refine V_aload_0q hx dJ0_length_8abf5_0 ?_
  refine V_getO hx s3 flJ0_9 dJ0_length_8abf5_1 ?_
  refine V_tlen hx s4 dJ0_length_8abf5_4 ?_
  refine V_aload_0q hx dJ0_length_8abf5_5 ?_
  refine V_invO [] hx el ed (c_coder hE) myJ0_coder_7d493 mlJ0_335 dJ0_length_8abf5_6 s1 (by decide) (by omega) rfl rfl (by first | exact Nat.le_of_ble_eq_true rfl | simp [vI, Value.category]) ?_
  rintro v N' I' ⟨rfl, rfl, rfl⟩
  refine V_ishr hx 6 dJ0_length_8abf5_9 (by decide) ?_
  refine V_ireturn hx dJ0_length_8abf5_10 (by omega) (by omega) ?_
  exact ⟨rfl, rfl, rfl⟩
theorem c_canEnc {l : Launch} {d : Dd} {z : Nat} {N : Int} {I : Mm} {c : Int} (hc : 0 ≤ c ∧ c ≤ 127) : Cn l d z yJ1_canEncode_9a6ad cJ1_canEncode_9a6ad 1 (some .boolean) 0 0 0 0 [vI c] N I (pv (vI 1) N I) := by
  refine Cn.ofAF [(vI c, false)] [some (vI c)] RJ1 (by decide +kernel) rfl ⟨rfl, trivial⟩ (Nat.le_of_ble_eq_true rfl) rfl (fun x ed el hx hini => ?_)
  refine V_iload_0 hx dJ1_canEncode_9a6ad_0 ?_
  refine V_if_lt (tgt := 15) hx dJ1_canEncode_9a6ad_1 (by decide) (by omega) (fun h => by omega) (fun _ => ?_)
  refine V_iload_0 hx dJ1_canEncode_9a6ad_4 ?_
  refine V_sipush hx dJ1_canEncode_9a6ad_5 (by decide) ?_
  refine V_icmp_gt (tgt := 15) hx dJ1_canEncode_9a6ad_8 (by decide) (by omega) (by omega) (fun h => by omega) (fun _ => ?_)
  refine V_iconst hx dJ1_canEncode_9a6ad_11 ?_
  refine V_goto (tgt := 16) hx dJ1_canEncode_9a6ad_12 (by decide) ?_
  refine V_zreturn hx dJ1_canEncode_9a6ad_16 (by omega) (by omega) (by omega) ?_
  exact ⟨rfl, rfl, rfl⟩
/-- the place of a letter, or -1 -/
noncomputable def ixF (c : Int) : Int := cif (nmF c = -4) (-1) (nmF c)
def ltI (i : Int) : Int := if i = 0 then 99 else if i = 1 then 108 else if i = 2 then 116 else if i = 3 then 100 else if i = 4 then 110 else 102
theorem ltI_eq {i : Int} (h0 : 0 ≤ i) (h1 : i < 6) : Value.int (ltrT.getD i.toNat 0) = vI (ltI i) := by
  have : i = 0 ∨ i = 1 ∨ i = 2 ∨ i = 3 ∨ i = 4 ∨ i = 5 := by omega
  rcases this with rfl | rfl | rfl | rfl | rfl | rfl <;> rfl
theorem ixF_at {i c : Int} (h0 : 0 ≤ i) (h1 : i < 6) (h : ltI i = c) : ixF c = i := by
  have : i = 0 ∨ i = 1 ∨ i = 2 ∨ i = 3 ∨ i = 4 ∨ i = 5 := by omega
  subst h
  have hn : nmF (ltI i) = i := by
    unfold nmF
    rcases this with rfl | rfl | rfl | rfl | rfl | rfl
    · rw [cif_t (by decide)]
    · rw [cif_f (by decide), cif_t (by decide)]
    · rw [cif_f (by decide), cif_f (by decide), cif_t (by decide)]
    · rw [cif_f (by decide), cif_f (by decide), cif_f (by decide), cif_t (by decide)]
    · rw [cif_f (by decide), cif_f (by decide), cif_f (by decide), cif_f (by decide), cif_t (by decide)]
    · rw [cif_f (by decide), cif_f (by decide), cif_f (by decide), cif_f (by decide), cif_f (by decide), cif_t (by decide)]
  unfold ixF
  rw [cif_f (by omega), hn]
theorem ixF_no {c : Int} (h : ∀ j : Int, 0 ≤ j → j < 6 → ltI j ≠ c) : ixF c = -1 := by
  have a0 : c ≠ 99 := fun e => h 0 (by decide) (by decide) e.symm
  have a1 : c ≠ 108 := fun e => h 1 (by decide) (by decide) e.symm
  have a2 : c ≠ 116 := fun e => h 2 (by decide) (by decide) e.symm
  have a3 : c ≠ 100 := fun e => h 3 (by decide) (by decide) e.symm
  have a4 : c ≠ 110 := fun e => h 4 (by decide) (by decide) e.symm
  have a5 : c ≠ 102 := fun e => h 5 (by decide) (by decide) e.symm
  unfold ixF
  rw [cif_t]
  unfold nmF
  rw [cif_f a0, cif_f a1, cif_f a2, cif_f a3, cif_f a4, cif_f a5]
theorem c_ixChar {l : Launch} {d : Dd} {z : Nat} {N : Int} {I : Mm} {e : Ee} {c : Int} (hE : HE d z e) (hc : 0 ≤ c ∧ c ≤ 127) : Cn l d z yJ1_indexOfChar_4cfef cJ1_indexOfChar_4cfef 6 (some .int) 0 0 0 0 [.ref e.2.2.2, vI c, vI 0, vI 6] N I (pv (vI (ixF c)) N I) := by
  refine Cn.ofAF [(.ref e.2.2.2, false), (vI c, false), (vI 0, false), (vI 6, false)] [some (.ref e.2.2.2), some (vI c), some (vI 0), some (vI 6), none, none] RJ1 (by decide +kernel) rfl ⟨rfl, rfl, rfl, rfl, trivial⟩ (Nat.le_of_ble_eq_true rfl) rfl (fun x ed el hx hini => ?_)
  obtain ⟨-, -, -, -, -, ⟨s1, s2, s3, s4⟩, cs⟩ := hx.ex ed hE
  refine V_iload_1 hx dJ1_indexOfChar_4cfef_0 ?_
  refine V_i2b hx c dJ1_indexOfChar_4cfef_1 (by rw [oI_i2b, Int.bmod_eq_of_le (by omega) (by omega)]) ?_
  refine V_istore_4 hx nc_I dJ1_indexOfChar_4cfef_2 ?_
  refine V_iload_2 hx dJ1_indexOfChar_4cfef_4 ?_
  refine V_istore_5 hx nc_I dJ1_indexOfChar_4cfef_5 ?_
  refine loop_inv (α := Unit) 0 6 (by decide) (fun i _ => ∀ j : Int, 0 ≤ j → j < i → ltI j ≠ c) (fun i _ => V x z _ N I 0 0 7 [some (.ref e.2.2.2), some (vI c), some (vI 0), some (vI 6), some (vI c), some (vI i)] []) ?_ ?_ () (fun j a b => by omega)
  · rintro _ hJ
    refine V_iload_5 hx dJ1_indexOfChar_4cfef_7 ?_
    refine V_iload_3 hx dJ1_indexOfChar_4cfef_9 ?_
    refine V_icmp_ge (tgt := 31) hx dJ1_indexOfChar_4cfef_10 (by decide) (by omega) (by omega) (fun _ => ?_) (fun h => by omega)
    refine V_iconst hx dJ1_indexOfChar_4cfef_31 ?_
    refine V_ireturn hx dJ1_indexOfChar_4cfef_32 (by omega) (by omega) ?_
    exact ⟨by rw [ixF_no hJ], rfl, rfl⟩
  · rintro i _ hi0 hi1 hJ ih
    refine V_iload_5 hx dJ1_indexOfChar_4cfef_7 ?_
    refine V_iload_3 hx dJ1_indexOfChar_4cfef_9 ?_
    refine V_icmp_ge (tgt := 31) hx dJ1_indexOfChar_4cfef_10 (by decide) (by omega) (by omega) (fun h => by omega) (fun _ => ?_)
    refine V_aload_0q hx dJ1_indexOfChar_4cfef_13 ?_
    refine V_iload_5 hx dJ1_indexOfChar_4cfef_14 ?_
    refine V_tldB hx s4 (by omega) (by decide) dJ1_indexOfChar_4cfef_16 ?_
    rw [ltI_eq hi0 hi1]
    have hlt : 0 ≤ ltI i ∧ ltI i ≤ 127 := by unfold ltI; (repeat (first | omega | split))
    refine V_iload_4 hx dJ1_indexOfChar_4cfef_17 ?_
    refine V_icmp_ne (tgt := 25) hx dJ1_indexOfChar_4cfef_19 (by decide) (by omega) (by omega) (fun h => ?_) (fun h => ?_)
    · refine V_iinc_5 hx nc_I dJ1_indexOfChar_4cfef_25 ?_
      refine V_goto (tgt := 7) hx dJ1_indexOfChar_4cfef_28 (by decide) ?_
      refine ih () (fun j j0 j1 => ?_)
      by_cases hj : j = i
      · subst hj; exact h
      · exact hJ j j0 (by omega)
    · refine V_iload_5 hx dJ1_indexOfChar_4cfef_22 ?_
      refine V_ireturn hx dJ1_indexOfChar_4cfef_24 (by omega) (by omega) ?_
      exact ⟨by rw [ixF_at hi0 hi1 h], rfl, rfl⟩
theorem c_ixLat {l : Launch} {d : Dd} {z : Nat} {N : Int} {I : Mm} {e : Ee} {c : Int} (hE : HE d z e) (hc : 0 ≤ c ∧ c ≤ 127) : Cn l d z yJ1_indexOf_4cfef cJ1_indexOf_4cfef 4 (some .int) 1 25 0 0 [.ref e.2.2.2, vI c, vI 0, vI 6] N I (pv (vI (ixF c)) N I) := by
  refine Cn.ofAF [(.ref e.2.2.2, false), (vI c, false), (vI 0, false), (vI 6, false)] [some (.ref e.2.2.2), some (vI c), some (vI 0), some (vI 6)] RJ1 (by decide +kernel) rfl ⟨rfl, rfl, rfl, rfl, trivial⟩ (Nat.le_of_ble_eq_true rfl) rfl (fun x ed el hx hini => ?_)
  obtain ⟨-, -, -, -, -, ⟨s1, s2, s3, s4⟩, cs⟩ := hx.ex ed hE
  refine V_iload_1 hx dJ1_indexOf_4cfef_0 ?_
  refine V_s1P hx el ed (c_canEnc hc) myJ1_canEncode_9a6ad mlJ1_88 dJ1_indexOf_4cfef_1 (by decide) (by omega) rfl (Nat.le_of_ble_eq_true rfl) ?_
  refine V_if_ne (tgt := 9) hx dJ1_indexOf_4cfef_4 (by decide) (by omega) (fun _ => ?_) (fun h => by omega)
  refine V_iload_2 hx dJ1_indexOf_4cfef_9 ?_
  refine V_iconst hx dJ1_indexOf_4cfef_10 ?_
  refine V_s2Q hx el ed (c_J9_max_7cf53 (by omega) (by omega)) myJ9_max_7cf53 mlJ1_92 dJ1_indexOf_4cfef_11 (by decide) (by omega) rfl (Nat.le_of_ble_eq_true rfl) (fun _ => ?_)
  refine V_istore_2 hx nc_I dJ1_indexOf_4cfef_14 ?_
  refine V_iload_3 hx dJ1_indexOf_4cfef_15 ?_
  refine V_aload_0q hx dJ1_indexOf_4cfef_16 ?_
  refine V_tlen hx s4 dJ1_indexOf_4cfef_17 ?_
  refine V_s2Q hx el ed (c_J9_min_7cf53 (by omega) (by omega)) myJ9_min_7cf53 mlJ1_38 dJ1_indexOf_4cfef_18 (by decide) (by omega) rfl (Nat.le_of_ble_eq_true rfl) (fun _ => ?_)
  refine V_istore_3 hx nc_I dJ1_indexOf_4cfef_21 ?_
  refine V_iload_2 hx dJ1_indexOf_4cfef_22 ?_
  refine V_iload_3 hx dJ1_indexOf_4cfef_23 ?_
  refine V_icmp_lt (tgt := 29) hx dJ1_indexOf_4cfef_24 (by decide) (by omega) (by omega) (fun _ => ?_) (fun h => by omega)
  refine V_aload_0q hx dJ1_indexOf_4cfef_29 ?_
  refine V_iload_1 hx dJ1_indexOf_4cfef_30 ?_
  refine V_iload_2 hx dJ1_indexOf_4cfef_31 ?_
  refine V_iload_3 hx dJ1_indexOf_4cfef_32 ?_
  have e0 : max (0 : Int) 0 = 0 := rfl
  have e6 : min (6 : Int) ((6 : Nat) : Int) = 6 := rfl
  rw [e0, e6]
  refine V_s4P hx el ed (c_ixChar hE hc) myJ1_indexOfChar_4cfef mlJ1_95 dJ1_indexOf_4cfef_33 (by decide) (by omega) rfl (Nat.le_of_ble_eq_true rfl) ?_
  refine V_ireturn hx dJ1_indexOf_4cfef_36 (by omega) (by omega) ?_
  exact ⟨rfl, rfl, rfl⟩
theorem c_ix2 {l : Launch} {d : Dd} {z : Nat} {N : Int} {I : Mm} {e : Ee} {c : Int} (hE : HE d z e) (hc : 0 ≤ c ∧ c ≤ 127) : Cn l d z yJ0_indexOf_7cf53 cJ0_indexOf_7cf53 3 (some .int) 2 48 0 0 [.ref e.2.2.1, vI c, vI 0] N I (pv (vI (ixF c)) N I) := by
  refine Cn.ofAF [(.ref e.2.2.1, false), (vI c, false), (vI 0, false)] [some (.ref e.2.2.1), some (vI c), some (vI 0)] RJ0 (by decide +kernel) rfl ⟨rfl, rfl, rfl, trivial⟩ (Nat.le_of_ble_eq_true rfl) rfl (fun x ed el hx hini => ?_)
  obtain ⟨-, -, -, -, -, ⟨s1, s2, s3, s4⟩, cs⟩ := hx.ex ed hE
  refine V_aload_0q hx dJ0_indexOf_7cf53_0 ?_
  refine V_invO [] hx el ed (c_isLatin1 hE) myJ0_isLatin1_aae02 mlJ0_492 dJ0_indexOf_7cf53_1 s1 (by decide) (by omega) rfl rfl (Nat.le_of_ble_eq_true rfl) ?_
  rintro v N' I' ⟨rfl, rfl, rfl⟩
  refine V_if_eq (tgt := 23) hx dJ0_indexOf_7cf53_4 (by decide) (by omega) (fun h => by omega) (fun _ => ?_)
  refine V_aload_0q hx dJ0_indexOf_7cf53_7 ?_
  refine V_getO hx s3 flJ0_9 dJ0_indexOf_7cf53_8 ?_
  refine V_iload_1 hx dJ0_indexOf_7cf53_11 ?_
  refine V_iload_2 hx dJ0_indexOf_7cf53_12 ?_
  refine V_aload_0q hx dJ0_indexOf_7cf53_13 ?_
  refine V_invO [] hx el ed (c_strLen hE) myJ0_length_8abf5 mlJ0_505 dJ0_indexOf_7cf53_14 s1 (by decide) (by omega) rfl rfl (by first | exact Nat.le_of_ble_eq_true rfl | simp [vI, Value.category]) ?_
  rintro v N' I' ⟨rfl, rfl, rfl⟩
  refine V_s4P hx el ed (c_ixLat hE hc) myJ1_indexOf_4cfef mlJ0_637 dJ0_indexOf_7cf53_17 (by decide) (by omega) rfl (Nat.le_of_ble_eq_true rfl) ?_
  refine V_goto (tgt := 36) hx dJ0_indexOf_7cf53_20 (by decide) ?_
  refine V_ireturn hx dJ0_indexOf_7cf53_36 (by omega) (by omega) ?_
  exact ⟨rfl, rfl, rfl⟩
theorem c_ix1 {l : Launch} {d : Dd} {z : Nat} {N : Int} {I : Mm} {e : Ee} {c : Int} (hE : HE d z e) (hc : 0 ≤ c ∧ c ≤ 127) : Cn l d z yJ0_indexOf_0f7a4 cJ0_indexOf_0f7a4 2 (some .int) 3 70 0 0 [.ref e.2.2.1, vI c] N I (pv (vI (ixF c)) N I) := by
  refine Cn.ofAF [(.ref e.2.2.1, false), (vI c, false)] [some (.ref e.2.2.1), some (vI c)] RJ0 (by decide +kernel) rfl ⟨rfl, rfl, trivial⟩ (Nat.le_of_ble_eq_true rfl) rfl (fun x ed el hx hini => ?_)
  obtain ⟨-, -, -, -, -, ⟨s1, s2, s3, s4⟩, cs⟩ := hx.ex ed hE
  refine V_aload_0q hx dJ0_indexOf_0f7a4_0 ?_
  refine V_iload_1 hx dJ0_indexOf_0f7a4_1 ?_
  refine V_iconst hx dJ0_indexOf_0f7a4_2 ?_
  refine V_invO [vI c, vI 0] hx el ed (c_ix2 hE hc) myJ0_indexOf_7cf53 mlJ0_633 dJ0_indexOf_0f7a4_3 s1 (by decide) (by omega) rfl rfl (Nat.le_of_ble_eq_true rfl) ?_
  rintro v N' I' ⟨rfl, rfl, rfl⟩
  refine V_ireturn hx dJ0_indexOf_0f7a4_6 (by omega) (by omega) ?_
  exact ⟨rfl, rfl, rfl⟩
