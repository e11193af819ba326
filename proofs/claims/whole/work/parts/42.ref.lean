/-! THE REFERENCE: a step -/
theorem of_R {x : Int32} (h : isR x) : ∃ a : Nat, a ≤ 5 ∧ x = nI a := nI_of2 (M := 5) (n := 5) (by decide) (Int32.not_lt.mpr h.1) h.2
theorem ix_in {p : Nat} {x : Int32} (hp : p < 6) (h : isR x) : vp_in (nI (6 * p) + x) 36 := by
  obtain ⟨a, ha, rfl⟩ := of_R h
  rw [nI_add]; exact vp_in_nI (by omega) (by decide)
theorem ix_cl {p : Nat} {x : Int32} (hp : p < 6) (h : isR x) : (nI (6 * p) + x).toNatClampNeg = 6 * p + x.toNatClampNeg := by
  obtain ⟨a, ha, rfl⟩ := of_R h
  rw [nI_add, nI_clamp (by omega), nI_clamp (by omega)]
/-- the reference's free instruction q of process p -/
def frI (I : pI) (p q : Nat) : pI :=
  if I 65 (4 * q) = 0 then upI (upI I 70 (6 * p + (I 65 (4 * q + 1)).toNatClampNeg) (I 65 (4 * q + 2))) 69 p (nI (q + 1))
  else if I 65 (4 * q) = 1 then upI (upI I 70 (6 * p + (I 65 (4 * q + 1)).toNatClampNeg) ((I 70 (6 * p + (I 65 (4 * q + 1)).toNatClampNeg) + I 65 (4 * q + 2)) - (I 70 (6 * p + (I 65 (4 * q + 1)).toNatClampNeg) + I 65 (4 * q + 2)) / 16 * 16)) 69 p (nI (q + 1))
  else if I 65 (4 * q) = 2 then upI (upI I 70 (6 * p + (I 65 (4 * q + 1)).toNatClampNeg) (I 70 (6 * p + (I 65 (4 * q + 2)).toNatClampNeg))) 69 p (nI (q + 1))
  else if I 65 (4 * q) = 3 then upI I 69 p (if I 70 (6 * p + (I 65 (4 * q + 1)).toNatClampNeg) = I 70 (6 * p + (I 65 (4 * q + 2)).toNatClampNeg) then I 65 (4 * q + 3) else nI (q + 1))
  else if I 65 (4 * q) = 4 then upI I 69 p (if I 70 (6 * p + (I 65 (4 * q + 1)).toNatClampNeg) < I 70 (6 * p + (I 65 (4 * q + 2)).toNatClampNeg) then I 65 (4 * q + 3) else nI (q + 1))
  else if I 65 (4 * q) = 5 then upI I 69 p (I 65 (4 * q + 3))
  else if I 65 (4 * q) = 6 then upI (upI (upI I 71 p 1) 72 p 0) 69 p (nI (q + 1))
  else upI I 69 p (nI (q + 1))
set_option maxRecDepth 100000 in
set_option maxHeartbeats 4000000 in
theorem r_free {p q : Nat} (I : pI) (J : pJ) (hp : p < 6) (hq40 : q < 40) (hq : I 69 p = nI q) (hmb : mbP (I 65 (4 * q)) (I 65 (4 * q + 1)) (I 65 (4 * q + 2)) (I 65 (4 * q + 3))) : pMet yX6_free (pws yX6_free cX6_free 7 none) { frames := 0, cells := 0, slots := 0, locals := 0 } [.ref 64, .int (nI p)] 84 I J pRs (pOv (fun I' J' => I' = frI I p q ∧ J' = J)) := by
  have e40 : (4 : Int32) * nI q = nI (4 * q) := by rw [show (4 : Int32) = nI 4 by decide, pk_mul]
  have e41 : nI (4 * q) + (1 : Int32) = nI (4 * q + 1) := nI_1 _
  have e42 : nI (4 * q) + (2 : Int32) = nI (4 * q + 2) := by rw [show (2 : Int32) = nI 2 by decide, nI_add]
  have e43 : nI (4 * q) + (3 : Int32) = nI (4 * q + 3) := by rw [show (3 : Int32) = nI 3 by decide, nI_add]
  have e60 : (6 : Int32) * nI p = nI (6 * p) := by rw [show (6 : Int32) = nI 6 by decide, pk_mul]
  have c0 : (nI (4 * q)).toNatClampNeg = 4 * q := nI_clamp (by omega)
  have c1 : (nI (4 * q + 1)).toNatClampNeg = 4 * q + 1 := nI_clamp (by omega)
  have c2 : (nI (4 * q + 2)).toNatClampNeg = 4 * q + 2 := nI_clamp (by omega)
  have c3 : (nI (4 * q + 3)).toNatClampNeg = 4 * q + 3 := nI_clamp (by omega)
  refine pMet_of (by decide) (Nat.le_of_ble_eq_true rfl) ?_
  refine pw_iconst (v := 4) dX6_free_0 (by decide) ?_
  refine pw_aload_n dX6_free_1 rfl ?_
  refine pw_getr dX6_free_2 fl_X6_29 rfl rfl (by decide) (by decide) rfl ?_
  refine pw_iload_n dX6_free_5 rfl ?_
  refine pw_iald dX6_free_6 rfl (by decide) (by decide) (vp_in_nI (by omega) (by decide)) ?_
  rw [nI_clamp (show p < 2 ^ 31 by omega)]
  rw [hq]
  refine pw_imul dX6_free_7 ?_
  rw [e40]
  refine pw_istore_n dX6_free_8 (by decide) ?_
  refine pw_aload_n dX6_free_9 rfl ?_
  refine pw_getr dX6_free_10 fl_X6_16 rfl rfl (by decide) (by decide) rfl ?_
  refine pw_iload_n dX6_free_13 rfl ?_
  refine pw_iconst (v := 1) dX6_free_14 (by decide) ?_
  refine pw_iadd dX6_free_15 ?_
  rw [e41]
  refine pw_iald dX6_free_16 rfl (by decide) (by decide) (vp_in_nI (by omega) (by decide)) ?_
  rw [c1]
  refine pw_istore_n dX6_free_17 (by decide) ?_
  refine pw_aload_n dX6_free_18 rfl ?_
  refine pw_getr dX6_free_19 fl_X6_16 rfl rfl (by decide) (by decide) rfl ?_
  refine pw_iload_n dX6_free_22 rfl ?_
  refine pw_iconst (v := 2) dX6_free_23 (by decide) ?_
  refine pw_iadd dX6_free_24 ?_
  rw [e42]
  refine pw_iald dX6_free_25 rfl (by decide) (by decide) (vp_in_nI (by omega) (by decide)) ?_
  rw [c2]
  refine pw_istore dX6_free_26 (by decide) ?_
  refine pw_aload_n dX6_free_28 rfl ?_
  refine pw_getr dX6_free_29 fl_X6_29 rfl rfl (by decide) (by decide) rfl ?_
  refine pw_iload_n dX6_free_32 rfl ?_
  refine pw_iald dX6_free_33 rfl (by decide) (by decide) (vp_in_nI (by omega) (by decide)) ?_
  rw [nI_clamp (show p < 2 ^ 31 by omega)]
  rw [hq]
  refine pw_iconst (v := 1) dX6_free_34 (by decide) ?_
  refine pw_iadd dX6_free_35 ?_
  rw [nI_1]
  refine pw_istore dX6_free_36 (by decide) ?_
  refine pw_bipush (v := 6) dX6_free_38 (by decide) ?_
  refine pw_iload_n dX6_free_40 rfl ?_
  refine pw_imul dX6_free_41 ?_
  rw [e60]
  refine pw_istore dX6_free_42 (by decide) ?_
  refine pw_aload_n dX6_free_44 rfl ?_
  refine pw_getr dX6_free_45 fl_X6_16 rfl rfl (by decide) (by decide) rfl ?_
  refine pw_iload_n dX6_free_48 rfl ?_
  refine pw_iald dX6_free_49 rfl (by decide) (by decide) (vp_in_nI (by omega) (by decide)) ?_
  rw [c0]
  refine pw_tsw dX6_free_50 (fun i50 hi50 s50 => ?_) (fun o50 => ?_)
  · rcases (show i50 = 0 ∨ i50 = 1 ∨ i50 = 2 ∨ i50 = 3 ∨ i50 = 4 ∨ i50 = 5 ∨ i50 = 6 by omega) with rfl | rfl | rfl | rfl | rfl | rfl | rfl
    · replace s50 := s50.trans (show _ = (0 : Int32) by decide)
      refine ⟨_, 92, rfl, by decide, ?_⟩
      have hm := hmb
      rw [s50] at hm
      simp (decide := true) only [mbP, if_true, if_false] at hm
      refine pw_aload_n dX6_free_92 rfl ?_
      refine pw_getr dX6_free_93 fl_X6_32 rfl rfl (by decide) (by decide) rfl ?_
      refine pw_iload dX6_free_96 rfl ?_
      refine pw_iload_n dX6_free_98 rfl ?_
      refine pw_iadd dX6_free_99 ?_
      refine pw_iload dX6_free_100 rfl ?_
      refine pw_iast dX6_free_102 rfl (by decide) (by decide) (ix_in hp hm.1) ?_
      rw [ix_cl hp hm.1]
      refine pw_goto (tgt := 265) dX6_free_103 (by decide) ?_
      refine pw_aload_n dX6_free_265 rfl ?_
      refine pw_getr dX6_free_266 fl_X6_29 rfl rfl (by decide) (by decide) rfl ?_
      refine pw_iload_n dX6_free_269 rfl ?_
      refine pw_iload dX6_free_270 rfl ?_
      refine pw_iast dX6_free_272 rfl (by decide) (by decide) (vp_in_nI (by omega) (by decide)) ?_
      refine pw_vret dX6_free_273 rfl (by decide) (by decide) ?_
      rw [nI_clamp (show p < 2 ^ 31 by omega)]
      refine ⟨rfl, rfl, rfl, ?_, rfl⟩
      first | (simp [frI, s50, h174]; done) | (simp [frI, s50, i_nlt h214]; done) | (simp [frI, s50, i_nle h214]; done) | (simp [frI, s50]; done) | (simp [frI, n0, n1, n2, n3, n4, n5, n6]; done)
    · replace s50 := s50.trans (show _ = (1 : Int32) by decide)
      refine ⟨_, 106, rfl, by decide, ?_⟩
      have hm := hmb
      rw [s50] at hm
      simp (decide := true) only [mbP, if_true, if_false] at hm
      refine pw_aload_n dX6_free_106 rfl ?_
      refine pw_getr dX6_free_107 fl_X6_32 rfl rfl (by decide) (by decide) rfl ?_
      refine pw_iload dX6_free_110 rfl ?_
      refine pw_iload_n dX6_free_112 rfl ?_
      refine pw_iadd dX6_free_113 ?_
      refine pw_aload_n dX6_free_114 rfl ?_
      refine pw_getr dX6_free_115 fl_X6_32 rfl rfl (by decide) (by decide) rfl ?_
      refine pw_iload dX6_free_118 rfl ?_
      refine pw_iload_n dX6_free_120 rfl ?_
      refine pw_iadd dX6_free_121 ?_
      refine pw_iald dX6_free_122 rfl (by decide) (by decide) (ix_in hp hm.1) ?_
      rw [ix_cl hp hm.1]
      refine pw_iload dX6_free_123 rfl ?_
      refine pw_iadd dX6_free_125 ?_
      refine pw_bipush (v := 16) dX6_free_126 (by decide) ?_
      refine pw_irem dX6_free_128 (by decide) ?_
      refine pw_iast dX6_free_129 rfl (by decide) (by decide) (ix_in hp hm.1) ?_
      rw [ix_cl hp hm.1]
      refine pw_goto (tgt := 265) dX6_free_130 (by decide) ?_
      refine pw_aload_n dX6_free_265 rfl ?_
      refine pw_getr dX6_free_266 fl_X6_29 rfl rfl (by decide) (by decide) rfl ?_
      refine pw_iload_n dX6_free_269 rfl ?_
      refine pw_iload dX6_free_270 rfl ?_
      refine pw_iast dX6_free_272 rfl (by decide) (by decide) (vp_in_nI (by omega) (by decide)) ?_
      refine pw_vret dX6_free_273 rfl (by decide) (by decide) ?_
      rw [nI_clamp (show p < 2 ^ 31 by omega)]
      refine ⟨rfl, rfl, rfl, ?_, rfl⟩
      first | (simp [frI, s50, h174]; done) | (simp [frI, s50, i_nlt h214]; done) | (simp [frI, s50, i_nle h214]; done) | (simp [frI, s50]; done) | (simp [frI, n0, n1, n2, n3, n4, n5, n6]; done)
    · replace s50 := s50.trans (show _ = (2 : Int32) by decide)
      refine ⟨_, 133, rfl, by decide, ?_⟩
      have hm := hmb
      rw [s50] at hm
      simp (decide := true) only [mbP, if_true, if_false] at hm
      refine pw_aload_n dX6_free_133 rfl ?_
      refine pw_getr dX6_free_134 fl_X6_32 rfl rfl (by decide) (by decide) rfl ?_
      refine pw_iload dX6_free_137 rfl ?_
      refine pw_iload_n dX6_free_139 rfl ?_
      refine pw_iadd dX6_free_140 ?_
      refine pw_aload_n dX6_free_141 rfl ?_
      refine pw_getr dX6_free_142 fl_X6_32 rfl rfl (by decide) (by decide) rfl ?_
      refine pw_iload dX6_free_145 rfl ?_
      refine pw_iload dX6_free_147 rfl ?_
      refine pw_iadd dX6_free_149 ?_
      refine pw_iald dX6_free_150 rfl (by decide) (by decide) (ix_in hp hm.2) ?_
      rw [ix_cl hp hm.2]
      refine pw_iast dX6_free_151 rfl (by decide) (by decide) (ix_in hp hm.1) ?_
      rw [ix_cl hp hm.1]
      refine pw_goto (tgt := 265) dX6_free_152 (by decide) ?_
      refine pw_aload_n dX6_free_265 rfl ?_
      refine pw_getr dX6_free_266 fl_X6_29 rfl rfl (by decide) (by decide) rfl ?_
      refine pw_iload_n dX6_free_269 rfl ?_
      refine pw_iload dX6_free_270 rfl ?_
      refine pw_iast dX6_free_272 rfl (by decide) (by decide) (vp_in_nI (by omega) (by decide)) ?_
      refine pw_vret dX6_free_273 rfl (by decide) (by decide) ?_
      rw [nI_clamp (show p < 2 ^ 31 by omega)]
      refine ⟨rfl, rfl, rfl, ?_, rfl⟩
      first | (simp [frI, s50, h174]; done) | (simp [frI, s50, i_nlt h214]; done) | (simp [frI, s50, i_nle h214]; done) | (simp [frI, s50]; done) | (simp [frI, n0, n1, n2, n3, n4, n5, n6]; done)
    · replace s50 := s50.trans (show _ = (3 : Int32) by decide)
      refine ⟨_, 155, rfl, by decide, ?_⟩
      have hm := hmb
      rw [s50] at hm
      simp (decide := true) only [mbP, if_true, if_false] at hm
      refine pw_aload_n dX6_free_155 rfl ?_
      refine pw_getr dX6_free_156 fl_X6_32 rfl rfl (by decide) (by decide) rfl ?_
      refine pw_iload dX6_free_159 rfl ?_
      refine pw_iload_n dX6_free_161 rfl ?_
      refine pw_iadd dX6_free_162 ?_
      refine pw_iald dX6_free_163 rfl (by decide) (by decide) (ix_in hp hm.1) ?_
      rw [ix_cl hp hm.1]
      refine pw_aload_n dX6_free_164 rfl ?_
      refine pw_getr dX6_free_165 fl_X6_32 rfl rfl (by decide) (by decide) rfl ?_
      refine pw_iload dX6_free_168 rfl ?_
      refine pw_iload dX6_free_170 rfl ?_
      refine pw_iadd dX6_free_172 ?_
      refine pw_iald dX6_free_173 rfl (by decide) (by decide) (ix_in hp hm.2.1) ?_
      rw [ix_cl hp hm.2.1]
      refine pw_icmp_ne (tgt := 188) dX6_free_174 (by decide) (fun h174 => ?_) (fun h174 => ?_)
      · refine pw_iload dX6_free_188 rfl ?_
        refine pw_istore dX6_free_190 (by decide) ?_
        refine pw_goto (tgt := 265) dX6_free_192 (by decide) ?_
        refine pw_aload_n dX6_free_265 rfl ?_
        refine pw_getr dX6_free_266 fl_X6_29 rfl rfl (by decide) (by decide) rfl ?_
        refine pw_iload_n dX6_free_269 rfl ?_
        refine pw_iload dX6_free_270 rfl ?_
        refine pw_iast dX6_free_272 rfl (by decide) (by decide) (vp_in_nI (by omega) (by decide)) ?_
        refine pw_vret dX6_free_273 rfl (by decide) (by decide) ?_
        rw [nI_clamp (show p < 2 ^ 31 by omega)]
        refine ⟨rfl, rfl, rfl, ?_, rfl⟩
        first | (simp [frI, s50, h174]; done) | (simp [frI, s50, i_nlt h214]; done) | (simp [frI, s50, i_nle h214]; done) | (simp [frI, s50]; done) | (simp [frI, n0, n1, n2, n3, n4, n5, n6]; done)
      · refine pw_aload_n dX6_free_177 rfl ?_
        refine pw_getr dX6_free_178 fl_X6_16 rfl rfl (by decide) (by decide) rfl ?_
        refine pw_iload_n dX6_free_181 rfl ?_
        refine pw_iconst (v := 3) dX6_free_182 (by decide) ?_
        refine pw_iadd dX6_free_183 ?_
        rw [e43]
        refine pw_iald dX6_free_184 rfl (by decide) (by decide) (vp_in_nI (by omega) (by decide)) ?_
        rw [c3]
        refine pw_goto (tgt := 190) dX6_free_185 (by decide) ?_
        refine pw_istore dX6_free_190 (by decide) ?_
        refine pw_goto (tgt := 265) dX6_free_192 (by decide) ?_
        refine pw_aload_n dX6_free_265 rfl ?_
        refine pw_getr dX6_free_266 fl_X6_29 rfl rfl (by decide) (by decide) rfl ?_
        refine pw_iload_n dX6_free_269 rfl ?_
        refine pw_iload dX6_free_270 rfl ?_
        refine pw_iast dX6_free_272 rfl (by decide) (by decide) (vp_in_nI (by omega) (by decide)) ?_
        refine pw_vret dX6_free_273 rfl (by decide) (by decide) ?_
        rw [nI_clamp (show p < 2 ^ 31 by omega)]
        refine ⟨rfl, rfl, rfl, ?_, rfl⟩
        first | (simp [frI, s50, h174]; done) | (simp [frI, s50, i_nlt h214]; done) | (simp [frI, s50, i_nle h214]; done) | (simp [frI, s50]; done) | (simp [frI, n0, n1, n2, n3, n4, n5, n6]; done)
    · replace s50 := s50.trans (show _ = (4 : Int32) by decide)
      refine ⟨_, 195, rfl, by decide, ?_⟩
      have hm := hmb
      rw [s50] at hm
      simp (decide := true) only [mbP, if_true, if_false] at hm
      refine pw_aload_n dX6_free_195 rfl ?_
      refine pw_getr dX6_free_196 fl_X6_32 rfl rfl (by decide) (by decide) rfl ?_
      refine pw_iload dX6_free_199 rfl ?_
      refine pw_iload_n dX6_free_201 rfl ?_
      refine pw_iadd dX6_free_202 ?_
      refine pw_iald dX6_free_203 rfl (by decide) (by decide) (ix_in hp hm.1) ?_
      rw [ix_cl hp hm.1]
      refine pw_aload_n dX6_free_204 rfl ?_
      refine pw_getr dX6_free_205 fl_X6_32 rfl rfl (by decide) (by decide) rfl ?_
      refine pw_iload dX6_free_208 rfl ?_
      refine pw_iload dX6_free_210 rfl ?_
      refine pw_iadd dX6_free_212 ?_
      refine pw_iald dX6_free_213 rfl (by decide) (by decide) (ix_in hp hm.2.1) ?_
      rw [ix_cl hp hm.2.1]
      refine pw_icmp_ge (tgt := 228) dX6_free_214 (by decide) (fun h214 => ?_) (fun h214 => ?_)
      · refine pw_iload dX6_free_228 rfl ?_
        refine pw_istore dX6_free_230 (by decide) ?_
        refine pw_goto (tgt := 265) dX6_free_232 (by decide) ?_
        refine pw_aload_n dX6_free_265 rfl ?_
        refine pw_getr dX6_free_266 fl_X6_29 rfl rfl (by decide) (by decide) rfl ?_
        refine pw_iload_n dX6_free_269 rfl ?_
        refine pw_iload dX6_free_270 rfl ?_
        refine pw_iast dX6_free_272 rfl (by decide) (by decide) (vp_in_nI (by omega) (by decide)) ?_
        refine pw_vret dX6_free_273 rfl (by decide) (by decide) ?_
        rw [nI_clamp (show p < 2 ^ 31 by omega)]
        refine ⟨rfl, rfl, rfl, ?_, rfl⟩
        first | (simp [frI, s50, h174]; done) | (simp [frI, s50, i_nlt h214]; done) | (simp [frI, s50, i_nle h214]; done) | (simp [frI, s50]; done) | (simp [frI, n0, n1, n2, n3, n4, n5, n6]; done)
      · refine pw_aload_n dX6_free_217 rfl ?_
        refine pw_getr dX6_free_218 fl_X6_16 rfl rfl (by decide) (by decide) rfl ?_
        refine pw_iload_n dX6_free_221 rfl ?_
        refine pw_iconst (v := 3) dX6_free_222 (by decide) ?_
        refine pw_iadd dX6_free_223 ?_
        rw [e43]
        refine pw_iald dX6_free_224 rfl (by decide) (by decide) (vp_in_nI (by omega) (by decide)) ?_
        rw [c3]
        refine pw_goto (tgt := 230) dX6_free_225 (by decide) ?_
        refine pw_istore dX6_free_230 (by decide) ?_
        refine pw_goto (tgt := 265) dX6_free_232 (by decide) ?_
        refine pw_aload_n dX6_free_265 rfl ?_
        refine pw_getr dX6_free_266 fl_X6_29 rfl rfl (by decide) (by decide) rfl ?_
        refine pw_iload_n dX6_free_269 rfl ?_
        refine pw_iload dX6_free_270 rfl ?_
        refine pw_iast dX6_free_272 rfl (by decide) (by decide) (vp_in_nI (by omega) (by decide)) ?_
        refine pw_vret dX6_free_273 rfl (by decide) (by decide) ?_
        rw [nI_clamp (show p < 2 ^ 31 by omega)]
        refine ⟨rfl, rfl, rfl, ?_, rfl⟩
        first | (simp [frI, s50, h174]; done) | (simp [frI, s50, i_nlt h214]; done) | (simp [frI, s50, i_nle h214]; done) | (simp [frI, s50]; done) | (simp [frI, n0, n1, n2, n3, n4, n5, n6]; done)
    · replace s50 := s50.trans (show _ = (5 : Int32) by decide)
      refine ⟨_, 235, rfl, by decide, ?_⟩
      refine pw_aload_n dX6_free_235 rfl ?_
      refine pw_getr dX6_free_236 fl_X6_16 rfl rfl (by decide) (by decide) rfl ?_
      refine pw_iload_n dX6_free_239 rfl ?_
      refine pw_iconst (v := 3) dX6_free_240 (by decide) ?_
      refine pw_iadd dX6_free_241 ?_
      rw [e43]
      refine pw_iald dX6_free_242 rfl (by decide) (by decide) (vp_in_nI (by omega) (by decide)) ?_
      rw [c3]
      refine pw_istore dX6_free_243 (by decide) ?_
      refine pw_goto (tgt := 265) dX6_free_245 (by decide) ?_
      refine pw_aload_n dX6_free_265 rfl ?_
      refine pw_getr dX6_free_266 fl_X6_29 rfl rfl (by decide) (by decide) rfl ?_
      refine pw_iload_n dX6_free_269 rfl ?_
      refine pw_iload dX6_free_270 rfl ?_
      refine pw_iast dX6_free_272 rfl (by decide) (by decide) (vp_in_nI (by omega) (by decide)) ?_
      refine pw_vret dX6_free_273 rfl (by decide) (by decide) ?_
      rw [nI_clamp (show p < 2 ^ 31 by omega)]
      refine ⟨rfl, rfl, rfl, ?_, rfl⟩
      first | (simp [frI, s50, h174]; done) | (simp [frI, s50, i_nlt h214]; done) | (simp [frI, s50, i_nle h214]; done) | (simp [frI, s50]; done) | (simp [frI, n0, n1, n2, n3, n4, n5, n6]; done)
    · replace s50 := s50.trans (show _ = (6 : Int32) by decide)
      refine ⟨_, 248, rfl, by decide, ?_⟩
      refine pw_aload_n dX6_free_248 rfl ?_
      refine pw_getr dX6_free_249 fl_X6_35 rfl rfl (by decide) (by decide) rfl ?_
      refine pw_iload_n dX6_free_252 rfl ?_
      refine pw_iconst (v := 1) dX6_free_253 (by decide) ?_
      refine pw_zast dX6_free_254 rfl (by decide) (by decide) (vp_in_nI (by omega) (by decide)) rfl ?_
      rw [nI_clamp (show p < 2 ^ 31 by omega)]
      refine pw_aload_n dX6_free_255 rfl ?_
      refine pw_getr dX6_free_256 fl_X6_39 rfl rfl (by decide) (by decide) rfl ?_
      refine pw_iload_n dX6_free_259 rfl ?_
      refine pw_iconst (v := 0) dX6_free_260 (by decide) ?_
      refine pw_iast dX6_free_261 rfl (by decide) (by decide) (vp_in_nI (by omega) (by decide)) ?_
      rw [nI_clamp (show p < 2 ^ 31 by omega)]
      refine pw_goto (tgt := 265) dX6_free_262 (by decide) ?_
      refine pw_aload_n dX6_free_265 rfl ?_
      refine pw_getr dX6_free_266 fl_X6_29 rfl rfl (by decide) (by decide) rfl ?_
      refine pw_iload_n dX6_free_269 rfl ?_
      refine pw_iload dX6_free_270 rfl ?_
      refine pw_iast dX6_free_272 rfl (by decide) (by decide) (vp_in_nI (by omega) (by decide)) ?_
      refine pw_vret dX6_free_273 rfl (by decide) (by decide) ?_
      rw [nI_clamp (show p < 2 ^ 31 by omega)]
      refine ⟨rfl, rfl, rfl, ?_, rfl⟩
      first | (simp [frI, s50, h174]; done) | (simp [frI, s50, i_nlt h214]; done) | (simp [frI, s50, i_nle h214]; done) | (simp [frI, s50]; done) | (simp [frI, n0, n1, n2, n3, n4, n5, n6]; done)
  · refine ⟨265, by decide, ?_⟩
    have n0 : ¬ I 65 (4 * q) = 0 := fun e => by rw [e] at o50; revert o50; decide
    have n1 : ¬ I 65 (4 * q) = 1 := fun e => by rw [e] at o50; revert o50; decide
    have n2 : ¬ I 65 (4 * q) = 2 := fun e => by rw [e] at o50; revert o50; decide
    have n3 : ¬ I 65 (4 * q) = 3 := fun e => by rw [e] at o50; revert o50; decide
    have n4 : ¬ I 65 (4 * q) = 4 := fun e => by rw [e] at o50; revert o50; decide
    have n5 : ¬ I 65 (4 * q) = 5 := fun e => by rw [e] at o50; revert o50; decide
    have n6 : ¬ I 65 (4 * q) = 6 := fun e => by rw [e] at o50; revert o50; decide
    refine pw_aload_n dX6_free_265 rfl ?_
    refine pw_getr dX6_free_266 fl_X6_29 rfl rfl (by decide) (by decide) rfl ?_
    refine pw_iload_n dX6_free_269 rfl ?_
    refine pw_iload dX6_free_270 rfl ?_
    refine pw_iast dX6_free_272 rfl (by decide) (by decide) (vp_in_nI (by omega) (by decide)) ?_
    refine pw_vret dX6_free_273 rfl (by decide) (by decide) ?_
    rw [nI_clamp (show p < 2 ^ 31 by omega)]
    refine ⟨rfl, rfl, rfl, ?_, rfl⟩
    first | (simp [frI, s50, h174]; done) | (simp [frI, s50, i_nlt h214]; done) | (simp [frI, s50, i_nle h214]; done) | (simp [frI, s50]; done) | (simp [frI, n0, n1, n2, n3, n4, n5, n6]; done)
/-- the loop of the reference's enter -/
def erB (I : pI) (p i : Nat) : pI := upI I 72 i (if i ≠ p ∧ I 68 i = 1 ∧ I 71 i ≠ 0 then I 72 i + 1 else I 72 i)
def erL (p : Nat) : Nat → Nat → pI → pI
  | 0, _, I => I
  | m + 1, i, I => erL p m (i + 1) (erB I p i)
def erA (I : pI) (p : Nat) : pI := upI (upI (upI I 68 p 2) 69 p (I 69 p + 1)) 71 p 0
abbrev m_X6_enter : pT := (yX6_enter.cls, cX6_enter, 4, none, { frames := 0, cells := 0, slots := 0, locals := 0 }, [], none)
set_option maxRecDepth 100000 in
set_option maxHeartbeats 4000000 in
theorem lr_enter {p c : Nat} (hp : p < 6) (hc : c ≤ 3) (J : pJ) (Q : pQ) : ∀ (m i : Nat) (I : pI), i + m = c → I 64 2 = nI c → Q (.inl none) 84 (erL p m i I) J pRs → PW m_X6_enter Q 26 [(0, .ref 64), (1, .int (nI p)), (2, .int 0), (3, .int (nI i))] [] 84 I J pRs 0 0 := by
  intro m
  induction m with
  | zero =>
    intro i I him hI hQ
    refine pw_iload_n dX6_enter_26 rfl ?_
    refine pw_aload_n dX6_enter_27 rfl ?_
    refine pw_geti dX6_enter_28 fl_X6_13 rfl rfl (by decide) (by decide) ?_
    refine pw_icmp_ge (tgt := 91) dX6_enter_31 (by decide) (fun h31 => ?_) (fun h31 => ?_)
    · refine pw_vret dX6_enter_91 rfl (by decide) (by decide) ?_
      exact hQ
    · exact absurd (by rw [hI]; exact nI_le (by omega) (by omega)) h31
  | succ m ih =>
    intro i I him hI hQ
    refine pw_iload_n dX6_enter_26 rfl ?_
    refine pw_aload_n dX6_enter_27 rfl ?_
    refine pw_geti dX6_enter_28 fl_X6_13 rfl rfl (by decide) (by decide) ?_
    refine pw_icmp_ge (tgt := 91) dX6_enter_31 (by decide) (fun h31 => ?_) (fun h31 => ?_)
    · exact absurd ((nI_leI (a := c) (b := i) (by omega) (by omega)).mp (by rw [← hI]; exact h31)) (by omega)
    · refine pw_iload_n dX6_enter_34 rfl ?_
      refine pw_if_ne (tgt := 91) dX6_enter_35 (by decide) (fun h35 => ?_) (fun h35 => ?_)
      · exact absurd rfl h35
      · refine pw_aload_n dX6_enter_38 rfl ?_
        refine pw_getr dX6_enter_39 fl_X6_39 rfl rfl (by decide) (by decide) rfl ?_
        refine pw_iload_n dX6_enter_42 rfl ?_
        refine pw_iload_n dX6_enter_43 rfl ?_
        refine pw_iload_n dX6_enter_44 rfl ?_
        refine pw_icmp_eq (tgt := 78) dX6_enter_45 (by decide) (fun h45 => ?_) (fun h45 => ?_)
        · refine pw_aload_n dX6_enter_78 rfl ?_
          refine pw_getr dX6_enter_79 fl_X6_39 rfl rfl (by decide) (by decide) rfl ?_
          refine pw_iload_n dX6_enter_82 rfl ?_
          refine pw_iald dX6_enter_83 rfl (by decide) (by decide) (vp_in_nI (by omega) (by decide)) ?_
          rw [nI_clamp (show i < 2 ^ 31 by omega)]
          refine pw_iast dX6_enter_84 rfl (by decide) (by decide) (vp_in_nI (by omega) (by decide)) ?_
          rw [nI_clamp (show i < 2 ^ 31 by omega)]
          refine pw_iinc (v := nI (i + 1)) dX6_enter_85 rfl (by rw [nI_succ]; rfl) (by decide) ?_
          refine pw_goto (tgt := 26) dX6_enter_88 (by decide) ?_
          refine pw_loc (L' := [(0, .ref 64), (1, .int (nI p)), (2, .int 0), (3, .int (nI (i + 1)))]) rfl ?_
          exact ih (i + 1) _ (by omega) (by rw [upI_a (by decide)]; exact hI) (by rw [erL, erB, if_neg (fun z => z.1 ((nI_eq (by omega) (by omega)).mp h45))] at hQ; exact hQ)
        · refine pw_aload_n dX6_enter_48 rfl ?_
          refine pw_getr dX6_enter_49 fl_X6_26 rfl rfl (by decide) (by decide) rfl ?_
          refine pw_iload_n dX6_enter_52 rfl ?_
          refine pw_iald dX6_enter_53 rfl (by decide) (by decide) (vp_in_nI (by omega) (by decide)) ?_
          rw [nI_clamp (show i < 2 ^ 31 by omega)]
          refine pw_iconst (v := 1) dX6_enter_54 (by decide) ?_
          refine pw_icmp_ne (tgt := 78) dX6_enter_55 (by decide) (fun h55 => ?_) (fun h55 => ?_)
          · refine pw_aload_n dX6_enter_78 rfl ?_
            refine pw_getr dX6_enter_79 fl_X6_39 rfl rfl (by decide) (by decide) rfl ?_
            refine pw_iload_n dX6_enter_82 rfl ?_
            refine pw_iald dX6_enter_83 rfl (by decide) (by decide) (vp_in_nI (by omega) (by decide)) ?_
            rw [nI_clamp (show i < 2 ^ 31 by omega)]
            refine pw_iast dX6_enter_84 rfl (by decide) (by decide) (vp_in_nI (by omega) (by decide)) ?_
            rw [nI_clamp (show i < 2 ^ 31 by omega)]
            refine pw_iinc (v := nI (i + 1)) dX6_enter_85 rfl (by rw [nI_succ]; rfl) (by decide) ?_
            refine pw_goto (tgt := 26) dX6_enter_88 (by decide) ?_
            refine pw_loc (L' := [(0, .ref 64), (1, .int (nI p)), (2, .int 0), (3, .int (nI (i + 1)))]) rfl ?_
            exact ih (i + 1) _ (by omega) (by rw [upI_a (by decide)]; exact hI) (by rw [erL, erB, if_neg (fun z => h55 z.2.1)] at hQ; exact hQ)
          · refine pw_aload_n dX6_enter_58 rfl ?_
            refine pw_getr dX6_enter_59 fl_X6_35 rfl rfl (by decide) (by decide) rfl ?_
            refine pw_iload_n dX6_enter_62 rfl ?_
            refine pw_zald dX6_enter_63 rfl (by decide) (by decide) (vp_in_nI (by omega) (by decide)) ?_
            rw [nI_clamp (show i < 2 ^ 31 by omega)]
            refine pw_if_eq (tgt := 78) dX6_enter_64 (by decide) (fun h64 => ?_) (fun h64 => ?_)
            · refine pw_aload_n dX6_enter_78 rfl ?_
              refine pw_getr dX6_enter_79 fl_X6_39 rfl rfl (by decide) (by decide) rfl ?_
              refine pw_iload_n dX6_enter_82 rfl ?_
              refine pw_iald dX6_enter_83 rfl (by decide) (by decide) (vp_in_nI (by omega) (by decide)) ?_
              rw [nI_clamp (show i < 2 ^ 31 by omega)]
              refine pw_iast dX6_enter_84 rfl (by decide) (by decide) (vp_in_nI (by omega) (by decide)) ?_
              rw [nI_clamp (show i < 2 ^ 31 by omega)]
              refine pw_iinc (v := nI (i + 1)) dX6_enter_85 rfl (by rw [nI_succ]; rfl) (by decide) ?_
              refine pw_goto (tgt := 26) dX6_enter_88 (by decide) ?_
              refine pw_loc (L' := [(0, .ref 64), (1, .int (nI p)), (2, .int 0), (3, .int (nI (i + 1)))]) rfl ?_
              exact ih (i + 1) _ (by omega) (by rw [upI_a (by decide)]; exact hI) (by rw [erL, erB, if_neg (fun z => z.2.2 h64)] at hQ; exact hQ)
            · refine pw_aload_n dX6_enter_67 rfl ?_
              refine pw_getr dX6_enter_68 fl_X6_39 rfl rfl (by decide) (by decide) rfl ?_
              refine pw_iload_n dX6_enter_71 rfl ?_
              refine pw_iald dX6_enter_72 rfl (by decide) (by decide) (vp_in_nI (by omega) (by decide)) ?_
              rw [nI_clamp (show i < 2 ^ 31 by omega)]
              refine pw_iconst (v := 1) dX6_enter_73 (by decide) ?_
              refine pw_iadd dX6_enter_74 ?_
              refine pw_goto (tgt := 84) dX6_enter_75 (by decide) ?_
              refine pw_iast dX6_enter_84 rfl (by decide) (by decide) (vp_in_nI (by omega) (by decide)) ?_
              rw [nI_clamp (show i < 2 ^ 31 by omega)]
              refine pw_iinc (v := nI (i + 1)) dX6_enter_85 rfl (by rw [nI_succ]; rfl) (by decide) ?_
              refine pw_goto (tgt := 26) dX6_enter_88 (by decide) ?_
              refine pw_loc (L' := [(0, .ref 64), (1, .int (nI p)), (2, .int 0), (3, .int (nI (i + 1)))]) rfl ?_
              exact ih (i + 1) _ (by omega) (by rw [upI_a (by decide)]; exact hI) (by rw [erL, erB, if_pos ⟨fun z => h45 (by rw [z]), h55, h64⟩] at hQ; exact hQ)
set_option maxRecDepth 100000 in
set_option maxHeartbeats 4000000 in
theorem r_enter {p c : Nat} (I : pI) (J : pJ) (hp : p < 6) (hc : c ≤ 3) (hI : I 64 2 = nI c) : pMet yX6_enter (pws yX6_enter cX6_enter 4 none) { frames := 0, cells := 0, slots := 0, locals := 0 } [.ref 64, .int (nI p), .int 0] 84 I J pRs (pOv (fun I' J' => I' = erL p c 0 (erA I p) ∧ J' = J)) := by
  refine pMet_of (by decide) (Nat.le_of_ble_eq_true rfl) ?_
  refine pw_aload_n dX6_enter_0 rfl ?_
  refine pw_getr dX6_enter_1 fl_X6_26 rfl rfl (by decide) (by decide) rfl ?_
  refine pw_iload_n dX6_enter_4 rfl ?_
  refine pw_iconst (v := 2) dX6_enter_5 (by decide) ?_
  refine pw_iast dX6_enter_6 rfl (by decide) (by decide) (vp_in_nI (by omega) (by decide)) ?_
  rw [nI_clamp (show p < 2 ^ 31 by omega)]
  refine pw_aload_n dX6_enter_7 rfl ?_
  refine pw_getr dX6_enter_8 fl_X6_29 rfl rfl (by decide) (by decide) rfl ?_
  refine pw_iload_n dX6_enter_11 rfl ?_
  refine pw_dup2 dX6_enter_12 rfl rfl ?_
  refine pw_iald dX6_enter_13 rfl (by decide) (by decide) (vp_in_nI (by omega) (by decide)) ?_
  rw [nI_clamp (show p < 2 ^ 31 by omega)]
  rw [upI_a (show (69 : Nat) ≠ 68 by decide)]
  refine pw_iconst (v := 1) dX6_enter_14 (by decide) ?_
  refine pw_iadd dX6_enter_15 ?_
  refine pw_iast dX6_enter_16 rfl (by decide) (by decide) (vp_in_nI (by omega) (by decide)) ?_
  rw [nI_clamp (show p < 2 ^ 31 by omega)]
  refine pw_aload_n dX6_enter_17 rfl ?_
  refine pw_getr dX6_enter_18 fl_X6_35 rfl rfl (by decide) (by decide) rfl ?_
  refine pw_iload_n dX6_enter_21 rfl ?_
  refine pw_iconst (v := 0) dX6_enter_22 (by decide) ?_
  refine pw_zast dX6_enter_23 rfl (by decide) (by decide) (vp_in_nI (by omega) (by decide)) rfl ?_
  rw [nI_clamp (show p < 2 ^ 31 by omega)]
  refine pw_iconst (v := 0) dX6_enter_24 (by decide) ?_
  refine pw_istore_n dX6_enter_25 (by decide) ?_
  refine pw_loc (L' := [(0, .ref 64), (1, .int (nI p)), (2, .int 0), (3, .int (nI 0))]) rfl ?_
  exact lr_enter hp hc J _ c 0 _ (by omega) (by rw [upI_a (by decide), upI_a (by decide), upI_a (by decide)]; exact hI) ⟨rfl, rfl, rfl, rfl, rfl⟩
set_option maxRecDepth 100000 in
set_option maxHeartbeats 4000000 in
theorem r_enter8 {p : Nat} (I : pI) (J : pJ) (hp : p < 6) : pMet yX6_enter (pws yX6_enter cX6_enter 4 none) { frames := 0, cells := 0, slots := 0, locals := 0 } [.ref 64, .int (nI p), .int 8] 84 I J pRs (pOv (fun I' J' => I' = erA I p ∧ J' = J)) := by
  refine pMet_of (by decide) (Nat.le_of_ble_eq_true rfl) ?_
  refine pw_aload_n dX6_enter_0 rfl ?_
  refine pw_getr dX6_enter_1 fl_X6_26 rfl rfl (by decide) (by decide) rfl ?_
  refine pw_iload_n dX6_enter_4 rfl ?_
  refine pw_iconst (v := 2) dX6_enter_5 (by decide) ?_
  refine pw_iast dX6_enter_6 rfl (by decide) (by decide) (vp_in_nI (by omega) (by decide)) ?_
  rw [nI_clamp (show p < 2 ^ 31 by omega)]
  refine pw_aload_n dX6_enter_7 rfl ?_
  refine pw_getr dX6_enter_8 fl_X6_29 rfl rfl (by decide) (by decide) rfl ?_
  refine pw_iload_n dX6_enter_11 rfl ?_
  refine pw_dup2 dX6_enter_12 rfl rfl ?_
  refine pw_iald dX6_enter_13 rfl (by decide) (by decide) (vp_in_nI (by omega) (by decide)) ?_
  rw [nI_clamp (show p < 2 ^ 31 by omega)]
  rw [upI_a (show (69 : Nat) ≠ 68 by decide)]
  refine pw_iconst (v := 1) dX6_enter_14 (by decide) ?_
  refine pw_iadd dX6_enter_15 ?_
  refine pw_iast dX6_enter_16 rfl (by decide) (by decide) (vp_in_nI (by omega) (by decide)) ?_
  rw [nI_clamp (show p < 2 ^ 31 by omega)]
  refine pw_aload_n dX6_enter_17 rfl ?_
  refine pw_getr dX6_enter_18 fl_X6_35 rfl rfl (by decide) (by decide) rfl ?_
  refine pw_iload_n dX6_enter_21 rfl ?_
  refine pw_iconst (v := 0) dX6_enter_22 (by decide) ?_
  refine pw_zast dX6_enter_23 rfl (by decide) (by decide) (vp_in_nI (by omega) (by decide)) rfl ?_
  rw [nI_clamp (show p < 2 ^ 31 by omega)]
  refine pw_iconst (v := 0) dX6_enter_24 (by decide) ?_
  refine pw_istore_n dX6_enter_25 (by decide) ?_
  refine pw_iload_n dX6_enter_26 rfl ?_
  refine pw_aload_n dX6_enter_27 rfl ?_
  refine pw_geti dX6_enter_28 fl_X6_13 rfl rfl (by decide) (by decide) ?_
  refine pw_icmp_ge (tgt := 91) dX6_enter_31 (by decide) (fun h31 => ?_) (fun h31 => ?_)
  · refine pw_vret dX6_enter_91 rfl (by decide) (by decide) ?_
    exact ⟨rfl, rfl, rfl, rfl, rfl⟩
  · refine pw_iload_n dX6_enter_34 rfl ?_
    refine pw_if_ne (tgt := 91) dX6_enter_35 (by decide) (fun h35 => ?_) (fun h35 => ?_)
    · refine pw_vret dX6_enter_91 rfl (by decide) (by decide) ?_
      exact ⟨rfl, rfl, rfl, rfl, rfl⟩
    · exact absurd h35 (by decide)
