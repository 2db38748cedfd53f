def tN1 (I : Mm) : Mm := upR I 50 (fun _ => 0)
def tN2 (I : Mm) : Mm := up (tN1 I) 49 0 50
def tN3 (I : Mm) : Mm := upR (tN2 I) 51 (fun _ => 0)
def tN4 (I : Mm) : Mm := up (tN3 I) 49 1 51
def tN5 (I : Mm) : Mm := upR (tN4 I) 52 (fun _ => 0)
def tN6 (I : Mm) : Mm := up (tN5 I) 49 2 52
def tN7 (I : Mm) : Mm := upR (tN6 I) 53 (fun _ => 0)
def tN8 (I : Mm) : Mm := up (tN7 I) 49 3 53
def tN9 (I : Mm) : Mm := upR (tN8 I) 54 (fun _ => 0)
def tN10 (I : Mm) : Mm := up (tN9 I) 49 4 54
def tN11 (I : Mm) : Mm := upR (tN10 I) 55 (fun _ => 0)
def tN12 (I : Mm) : Mm := up (tN11 I) 49 5 55
def tN13 (I : Mm) : Mm := upR (tN12 I) 56 (fun _ => 0)
def tN14 (I : Mm) : Mm := up (tN13 I) 49 10 56
def tN15 (I : Mm) : Mm := upR (tN14 I) 57 (fun _ => 0)
def tN16 (I : Mm) : Mm := up (tN15 I) 49 14 57
def tN17 (I : Mm) : Mm := upR (tN16 I) 58 (fun _ => 0)
def tN18 (I : Mm) : Mm := up (tN17 I) 49 15 58
def tN19 (I : Mm) : Mm := upR (tN18 I) 59 (fun _ => 0)
def tN20 (I : Mm) : Mm := up (tN19 I) 49 16 59
def tN21 (I : Mm) : Mm := upR (tN20 I) 60 (fun _ => 0)
def tN22 (I : Mm) : Mm := up (tN21 I) 49 17 60
def tN23 (I : Mm) : Mm := upR (tN22 I) 61 (fun _ => 0)
def tN24 (I : Mm) : Mm := up (tN23 I) 49 18 61
def tN25 (I : Mm) : Mm := upR (tN24 I) 62 (fun _ => 0)
def tN26 (I : Mm) : Mm := up (tN25 I) 49 19 62
def tN27 (I : Mm) : Mm := upR (tN26 I) 63 (fun _ => 0)
def tN28 (I : Mm) : Mm := up (tN27 I) 49 22 63
def tN29 (I : Mm) : Mm := upR (tN28 I) 64 (fun _ => 0)
def tN30 (I : Mm) : Mm := up (tN29 I) 49 23 64
def tN31 (I : Mm) : Mm := upR (tN30 I) 65 (fun _ => 0)
def tN32 (I : Mm) : Mm := up (tN31 I) 49 24 65
def tN33 (I : Mm) : Mm := upR (tN32 I) 66 (fun _ => 0)
def tN34 (I : Mm) : Mm := up (tN33 I) 49 25 66
def seS (M : Mm) (i : Int) : Mm := up (up M 50 (7 * i + 1) 1) 50 (7 * i + 2) 100
def laS (M : Mm) (i : Int) : Mm := up M 58 i (-4)
def mIni (I : Mm) : Mm := fld laS (up (up (up (up (fld seS (tN34 I) 8) 57 2 1) 57 8 1) 49 9 (-4)) 49 12 24) 4
set_option maxRecDepth 8000 in
theorem c_X11_init {l : Launch} {d : Dd} {z : Nat} {I : Mm}  : Cn l d z yX11_init cX11_init 2 none 1 20 17 14583 [vR z 49] 50 I (pN (fun N' I' => N' = 67 ∧ I' = mIni I)) := by
  refine Cn.ofA [(vR z 49, false)] [some (vR z 49), none] RX11 (by decide) rfl ⟨cR z 49, trivial⟩ (Nat.le_of_ble_eq_true rfl) rfl (fun x ed el hx hini => ?_)
  refine V_aload_0 hx dX11_init_0 ?_
  refine V_objInit hx mlX11_1 dX11_init_1 (by omega) (by decide) rfl (by first | exact Nat.le_of_ble_eq_true rfl | simp [vI, vL, vR_cat, Value.category]) ?_
  refine V_aload_0 hx dX11_init_4 ?_
  refine V_bipush hx dX11_init_5 (by decide) ?_
  refine V_newI hx (m := 56) dX11_init_7 (by decide) rfl (by decide) (by omega) ?_
  refine V_cnt (N' := 51) (by decide) rfl rfl ?_
  refine V_mem (tN1 I) rfl ?_
  refine V_putRFg 0 hx flX11_7 dX11_init_9 rfl (Or.inr ⟨_, rfl⟩) (fun r h => by cases h; exact ⟨rfl, rfl⟩) (hini rfl) (show shk 51 49 (0, 11) from ⟨by decide, by decide, rfl⟩) ?_
  refine V_mem (tN2 I) rfl ?_
  refine V_aload_0 hx dX11_init_12 ?_
  refine V_bipush hx dX11_init_13 (by decide) ?_
  refine V_newI hx (m := 8) dX11_init_15 (by decide) rfl (by decide) (by omega) ?_
  refine V_cnt (N' := 52) (by decide) rfl rfl ?_
  refine V_mem (tN3 I) rfl ?_
  refine V_putRFg 1 hx flX11_13 dX11_init_17 rfl (Or.inr ⟨_, rfl⟩) (fun r h => by cases h; exact ⟨rfl, rfl⟩) (hini rfl) (show shk 52 49 (0, 11) from ⟨by decide, by decide, rfl⟩) ?_
  refine V_mem (tN4 I) rfl ?_
  refine V_aload_0 hx dX11_init_20 ?_
  refine V_bipush hx dX11_init_21 (by decide) ?_
  refine V_newI hx (m := 8) dX11_init_23 (by decide) rfl (by decide) (by omega) ?_
  refine V_cnt (N' := 53) (by decide) rfl rfl ?_
  refine V_mem (tN5 I) rfl ?_
  refine V_putRFg 2 hx flX11_16 dX11_init_25 rfl (Or.inr ⟨_, rfl⟩) (fun r h => by cases h; exact ⟨rfl, rfl⟩) (hini rfl) (show shk 53 49 (0, 11) from ⟨by decide, by decide, rfl⟩) ?_
  refine V_mem (tN6 I) rfl ?_
  refine V_aload_0 hx dX11_init_28 ?_
  refine V_bipush hx dX11_init_29 (by decide) ?_
  refine V_newI hx (m := 8) dX11_init_31 (by decide) rfl (by decide) (by omega) ?_
  refine V_cnt (N' := 54) (by decide) rfl rfl ?_
  refine V_mem (tN7 I) rfl ?_
  refine V_putRFg 3 hx flX11_19 dX11_init_33 rfl (Or.inr ⟨_, rfl⟩) (fun r h => by cases h; exact ⟨rfl, rfl⟩) (hini rfl) (show shk 54 49 (0, 11) from ⟨by decide, by decide, rfl⟩) ?_
  refine V_mem (tN8 I) rfl ?_
  refine V_aload_0 hx dX11_init_36 ?_
  refine V_bipush hx dX11_init_37 (by decide) ?_
  refine V_newI hx (m := 8) dX11_init_39 (by decide) rfl (by decide) (by omega) ?_
  refine V_cnt (N' := 55) (by decide) rfl rfl ?_
  refine V_mem (tN9 I) rfl ?_
  refine V_putRFg 4 hx flX11_22 dX11_init_41 rfl (Or.inr ⟨_, rfl⟩) (fun r h => by cases h; exact ⟨rfl, rfl⟩) (hini rfl) (show shk 55 49 (0, 11) from ⟨by decide, by decide, rfl⟩) ?_
  refine V_mem (tN10 I) rfl ?_
  refine V_aload_0 hx dX11_init_44 ?_
  refine V_sipush hx dX11_init_45 (by decide) ?_
  refine V_newI hx (m := 13000) dX11_init_48 (by decide) rfl (by decide) (by omega) ?_
  refine V_cnt (N' := 56) (by decide) rfl rfl ?_
  refine V_mem (tN11 I) rfl ?_
  refine V_putRFg 5 hx flX11_25 dX11_init_50 rfl (Or.inr ⟨_, rfl⟩) (fun r h => by cases h; exact ⟨rfl, rfl⟩) (hini rfl) (show shk 56 49 (0, 11) from ⟨by decide, by decide, rfl⟩) ?_
  refine V_mem (tN12 I) rfl ?_
  refine V_aload_0 hx dX11_init_53 ?_
  refine V_sipush hx dX11_init_54 (by decide) ?_
  refine V_newI hx (m := 1000) dX11_init_57 (by decide) rfl (by decide) (by omega) ?_
  refine V_cnt (N' := 57) (by decide) rfl rfl ?_
  refine V_mem (tN13 I) rfl ?_
  refine V_putRFg 10 hx flX11_28 dX11_init_59 rfl (Or.inr ⟨_, rfl⟩) (fun r h => by cases h; exact ⟨rfl, rfl⟩) (hini rfl) (show shk 57 49 (0, 11) from ⟨by decide, by decide, rfl⟩) ?_
  refine V_mem (tN14 I) rfl ?_
  refine V_aload_0 hx dX11_init_62 ?_
  refine V_bipush hx dX11_init_63 (by decide) ?_
  refine V_newI hx (m := 12) dX11_init_65 (by decide) rfl (by decide) (by omega) ?_
  refine V_cnt (N' := 58) (by decide) rfl rfl ?_
  refine V_mem (tN15 I) rfl ?_
  refine V_putRFg 14 hx flX11_31 dX11_init_67 rfl (Or.inr ⟨_, rfl⟩) (fun r h => by cases h; exact ⟨rfl, rfl⟩) (hini rfl) (show shk 58 49 (0, 11) from ⟨by decide, by decide, rfl⟩) ?_
  refine V_mem (tN16 I) rfl ?_
  refine V_aload_0 hx dX11_init_70 ?_
  refine V_iconst hx dX11_init_71 ?_
  refine V_newI hx (m := 4) dX11_init_72 (by decide) rfl (by decide) (by omega) ?_
  refine V_cnt (N' := 59) (by decide) rfl rfl ?_
  refine V_mem (tN17 I) rfl ?_
  refine V_putRFg 15 hx flX11_34 dX11_init_74 rfl (Or.inr ⟨_, rfl⟩) (fun r h => by cases h; exact ⟨rfl, rfl⟩) (hini rfl) (show shk 59 49 (0, 11) from ⟨by decide, by decide, rfl⟩) ?_
  refine V_mem (tN18 I) rfl ?_
  refine V_aload_0 hx dX11_init_77 ?_
  refine V_iconst hx dX11_init_78 ?_
  refine V_newI hx (m := 4) dX11_init_79 (by decide) rfl (by decide) (by omega) ?_
  refine V_cnt (N' := 60) (by decide) rfl rfl ?_
  refine V_mem (tN19 I) rfl ?_
  refine V_putRFg 16 hx flX11_37 dX11_init_81 rfl (Or.inr ⟨_, rfl⟩) (fun r h => by cases h; exact ⟨rfl, rfl⟩) (hini rfl) (show shk 60 49 (0, 11) from ⟨by decide, by decide, rfl⟩) ?_
  refine V_mem (tN20 I) rfl ?_
  refine V_aload_0 hx dX11_init_84 ?_
  refine V_bipush hx dX11_init_85 (by decide) ?_
  refine V_newI hx (m := 96) dX11_init_87 (by decide) rfl (by decide) (by omega) ?_
  refine V_cnt (N' := 61) (by decide) rfl rfl ?_
  refine V_mem (tN21 I) rfl ?_
  refine V_putRFg 17 hx flX11_40 dX11_init_89 rfl (Or.inr ⟨_, rfl⟩) (fun r h => by cases h; exact ⟨rfl, rfl⟩) (hini rfl) (show shk 61 49 (0, 11) from ⟨by decide, by decide, rfl⟩) ?_
  refine V_mem (tN22 I) rfl ?_
  refine V_aload_0 hx dX11_init_92 ?_
  refine V_bipush hx dX11_init_93 (by decide) ?_
  refine V_newI hx (m := 24) dX11_init_95 (by decide) rfl (by decide) (by omega) ?_
  refine V_cnt (N' := 62) (by decide) rfl rfl ?_
  refine V_mem (tN23 I) rfl ?_
  refine V_putRFg 18 hx flX11_43 dX11_init_97 rfl (Or.inr ⟨_, rfl⟩) (fun r h => by cases h; exact ⟨rfl, rfl⟩) (hini rfl) (show shk 62 49 (0, 11) from ⟨by decide, by decide, rfl⟩) ?_
  refine V_mem (tN24 I) rfl ?_
  refine V_aload_0 hx dX11_init_100 ?_
  refine V_bipush hx dX11_init_101 (by decide) ?_
  refine V_newI hx (m := 40) dX11_init_103 (by decide) rfl (by decide) (by omega) ?_
  refine V_cnt (N' := 63) (by decide) rfl rfl ?_
  refine V_mem (tN25 I) rfl ?_
  refine V_putRFg 19 hx flX11_46 dX11_init_105 rfl (Or.inr ⟨_, rfl⟩) (fun r h => by cases h; exact ⟨rfl, rfl⟩) (hini rfl) (show shk 63 49 (0, 11) from ⟨by decide, by decide, rfl⟩) ?_
  refine V_mem (tN26 I) rfl ?_
  refine V_aload_0 hx dX11_init_108 ?_
  refine V_bipush hx dX11_init_109 (by decide) ?_
  refine V_newI hx (m := 6) dX11_init_111 (by decide) rfl (by decide) (by omega) ?_
  refine V_cnt (N' := 64) (by decide) rfl rfl ?_
  refine V_mem (tN27 I) rfl ?_
  refine V_putRFg 22 hx flX11_49 dX11_init_113 rfl (Or.inr ⟨_, rfl⟩) (fun r h => by cases h; exact ⟨rfl, rfl⟩) (hini rfl) (show shk 64 49 (0, 11) from ⟨by decide, by decide, rfl⟩) ?_
  refine V_mem (tN28 I) rfl ?_
  refine V_aload_0 hx dX11_init_116 ?_
  refine V_sipush hx dX11_init_117 (by decide) ?_
  refine V_newI hx (m := 297) dX11_init_120 (by decide) rfl (by decide) (by omega) ?_
  refine V_cnt (N' := 65) (by decide) rfl rfl ?_
  refine V_mem (tN29 I) rfl ?_
  refine V_putRFg 23 hx flX11_52 dX11_init_122 rfl (Or.inr ⟨_, rfl⟩) (fun r h => by cases h; exact ⟨rfl, rfl⟩) (hini rfl) (show shk 65 49 (0, 11) from ⟨by decide, by decide, rfl⟩) ?_
  refine V_mem (tN30 I) rfl ?_
  refine V_aload_0 hx dX11_init_125 ?_
  refine V_bipush hx dX11_init_126 (by decide) ?_
  refine V_newI hx (m := 6) dX11_init_128 (by decide) rfl (by decide) (by omega) ?_
  refine V_cnt (N' := 66) (by decide) rfl rfl ?_
  refine V_mem (tN31 I) rfl ?_
  refine V_putRFg 24 hx flX11_55 dX11_init_130 rfl (Or.inr ⟨_, rfl⟩) (fun r h => by cases h; exact ⟨rfl, rfl⟩) (hini rfl) (show shk 66 49 (0, 11) from ⟨by decide, by decide, rfl⟩) ?_
  refine V_mem (tN32 I) rfl ?_
  refine V_aload_0 hx dX11_init_133 ?_
  refine V_bipush hx dX11_init_134 (by decide) ?_
  refine V_newI hx (m := 6) dX11_init_136 (by decide) rfl (by decide) (by omega) ?_
  refine V_cnt (N' := 67) (by decide) rfl rfl ?_
  refine V_mem (tN33 I) rfl ?_
  refine V_putRFg 25 hx flX11_58 dX11_init_138 rfl (Or.inr ⟨_, rfl⟩) (fun r h => by cases h; exact ⟨rfl, rfl⟩) (hini rfl) (show shk 67 49 (0, 11) from ⟨by decide, by decide, rfl⟩) ?_
  refine V_mem (tN34 I) rfl ?_
  refine V_iconst hx dX11_init_141 ?_
  refine V_istore_1 hx (by first | exact nc_I | exact nc_R | exact nc_n) dX11_init_142 ?_
  refine loop_inv (α := Mm) 0 8 (by decide) (fun i M => M = fld seS (tN34 I) i.toNat ∧ (M 49 0 = 50 ∧ M 49 14 = 57 ∧ M 49 15 = 58)) (fun i M => V x z _ 67 M _ _ 143 [some (vR z 49), some (vI i)] []) ?_ ?_ _ ⟨rfl, rfl, rfl, rfl⟩
  · rintro M ⟨eM, m0, m14, m15⟩
    refine V_iload_1 hx dX11_init_143 ?_
    refine V_bipush hx dX11_init_144 (by decide) ?_
    refine V_icmp_ge (tgt := 180) hx dX11_init_146 (by decide) (by omega) (by omega) (fun h146 => ?_) (fun h146 => ?_)
    · refine V_aload_0 hx dX11_init_180 ?_
      refine V_getRe hx flX11_31 dX11_init_181 rfl (show shk 67 49 (0, 11) from ⟨by decide, by decide, rfl⟩) m14 ?_
      refine V_iconst hx dX11_init_184 ?_
      refine V_iconst hx dX11_init_185 ?_
      refine V_iastore hx dX11_init_186 (show shk 67 57 (1, 12) from ⟨by decide, by decide, rfl⟩) (by decide) (by omega) ?_
      refine V_aload_0 hx dX11_init_187 ?_
      refine V_getRe hx flX11_31 dX11_init_188 rfl (show shk 67 49 (0, 11) from ⟨by decide, by decide, rfl⟩) (show up M 57 2 1 49 14 = 57 by rw [up_c (by decide)]; exact m14) ?_
      refine V_bipush hx dX11_init_191 (by decide) ?_
      refine V_iconst hx dX11_init_193 ?_
      refine V_iastore hx dX11_init_194 (show shk 67 57 (1, 12) from ⟨by decide, by decide, rfl⟩) (by decide) (by omega) ?_
      refine V_aload_0 hx dX11_init_195 ?_
      refine V_bipush hx dX11_init_196 (by decide) ?_
      refine V_putI (f := 9) hx flX11_61 dX11_init_198 rfl (fun r h => by cases h; rfl) (show shk 67 49 (0, 11) from ⟨by decide, by decide, rfl⟩) ?_
      refine V_aload_0 hx dX11_init_201 ?_
      refine V_bipush hx dX11_init_202 (by decide) ?_
      refine V_putI (f := 12) hx flX11_65 dX11_init_204 rfl (fun r h => by cases h; rfl) (show shk 67 49 (0, 11) from ⟨by decide, by decide, rfl⟩) ?_
      refine V_iconst hx dX11_init_207 ?_
      refine V_istore_1 hx (by first | exact nc_I | exact nc_R | exact nc_n) dX11_init_208 ?_
      refine loop_inv (α := Mm) 0 4 (by decide) (fun i M2 => M2 = fld laS (up (up (up (up M 57 2 1) 57 8 1) 49 9 (-4)) 49 12 24) i.toNat ∧ M2 49 15 = 58) (fun i M2 => V x z _ 67 M2 _ _ 209 [some (vR z 49), some (vI i)] []) ?_ ?_ _ ⟨rfl, by rw [up_k (by decide), up_k (by decide), up_c (by decide), up_c (by decide)]; exact m15⟩
      · rintro M2 ⟨eM2, -⟩
        refine V_iload_1 hx dX11_init_209 ?_
        refine V_iconst hx dX11_init_210 ?_
        refine V_icmp_ge (tgt := 228) hx dX11_init_211 (by decide) (by omega) (by omega) (fun h211 => ?_) (fun h211 => ?_)
        · refine V_return hx dX11_init_228 (by omega) (by omega) ?_
          exact ⟨rfl, rfl, by rw [eM2, eM]; rfl⟩
        · exfalso; omega
      · rintro j M2 hj0 hj1 ⟨eM2, n15⟩ jh
        refine V_iload_1 hx dX11_init_209 ?_
        refine V_iconst hx dX11_init_210 ?_
        refine V_icmp_ge (tgt := 228) hx dX11_init_211 (by decide) (by omega) (by omega) (fun h211 => ?_) (fun h211 => ?_)
        · exfalso; omega
        · refine V_aload_0 hx dX11_init_214 ?_
          refine V_getRe hx flX11_34 dX11_init_215 rfl (show shk 67 49 (0, 11) from ⟨by decide, by decide, rfl⟩) n15 ?_
          refine V_iload_1 hx dX11_init_218 ?_
          refine V_bipush hx dX11_init_219 (by decide) ?_
          refine V_iastore hx dX11_init_221 (show shk 67 58 (1, 4) from ⟨by decide, by decide, rfl⟩) (by decide) (by omega) ?_
          refine V_iinc_1 hx (by first | exact nc_I | exact nc_R | exact nc_n) dX11_init_222 ?_
          refine V_goto (tgt := 209) hx dX11_init_225 (by decide) ?_
          refine jh _ ⟨by rw [fld_s _ _ hj0, ← eM2]; rfl, by rw [up_c (by decide)]; exact n15⟩
    · exfalso; omega
  · rintro i M hi0 hi1 ⟨eM, m0, m14, m15⟩ ih
    refine V_iload_1 hx dX11_init_143 ?_
    refine V_bipush hx dX11_init_144 (by decide) ?_
    refine V_icmp_ge (tgt := 180) hx dX11_init_146 (by decide) (by omega) (by omega) (fun h146 => ?_) (fun h146 => ?_)
    · exfalso; omega
    · refine V_aload_0 hx dX11_init_149 ?_
      refine V_getRe hx flX11_7 dX11_init_150 rfl (show shk 67 49 (0, 11) from ⟨by decide, by decide, rfl⟩) m0 ?_
      refine V_bipush hx dX11_init_153 (by decide) ?_
      refine V_iload_1 hx dX11_init_155 ?_
      refine V_imul hx dX11_init_156 ?_
      refine V_iconst hx dX11_init_157 ?_
      refine V_iadd hx dX11_init_158 ?_
      refine V_iconst hx dX11_init_159 ?_
      refine V_iastore hx dX11_init_160 (show shk 67 50 (1, 56) from ⟨by decide, by decide, rfl⟩) (by decide) (by omega) ?_
      refine V_aload_0 hx dX11_init_161 ?_
      refine V_getRe hx flX11_7 dX11_init_162 rfl (show shk 67 49 (0, 11) from ⟨by decide, by decide, rfl⟩) (show up M 50 (7 * i + 1) 1 49 0 = 50 by rw [up_c (by decide)]; exact m0) ?_
      refine V_bipush hx dX11_init_165 (by decide) ?_
      refine V_iload_1 hx dX11_init_167 ?_
      refine V_imul hx dX11_init_168 ?_
      refine V_iconst hx dX11_init_169 ?_
      refine V_iadd hx dX11_init_170 ?_
      refine V_bipush hx dX11_init_171 (by decide) ?_
      refine V_iastore hx dX11_init_173 (show shk 67 50 (1, 56) from ⟨by decide, by decide, rfl⟩) (by decide) (by omega) ?_
      refine V_iinc_1 hx (by first | exact nc_I | exact nc_R | exact nc_n) dX11_init_174 ?_
      refine V_goto (tgt := 143) hx dX11_init_177 (by decide) ?_
      refine ih _ ⟨?_, ?_, ?_, ?_⟩
      · rw [fld_s _ _ hi0, ← eM]; rfl
      · rw [up_c (by decide), up_c (by decide)]; exact m0
      · rw [up_c (by decide), up_c (by decide)]; exact m14
      · rw [up_c (by decide), up_c (by decide)]; exact m15

