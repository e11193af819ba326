/-- all registers of process p hold 0 .. 15 -/
def RG (I : pI) (p : Nat) : Prop := ∀ r, r < 6 → ∃ v, v ≤ 15 ∧ I 70 (6 * p + r) = nI v
/-- what is added to a word's number -/
def mrI (I : pI) (p q : Nat) : Int32 := if 9 < I 65 (4 * q) ∨ I 65 (4 * q + 3) = 6 then 0 else I 70 (6 * p + (I 65 (4 * q + 3)).toNatClampNeg)
def wrI (I : pI) (p q b : Nat) : Int32 := nI b + ((I 65 (4 * q + 2) + mrI I p q) - (I 65 (4 * q + 2) + mrI I p q) / 8 * 8)
theorem mr_ok {I : pI} {p q : Nat} (hp : p < 6) (hR : RG I p) (hk : 7 ≤ I 65 (4 * q)) (hmb : mbP (I 65 (4 * q)) (I 65 (4 * q + 1)) (I 65 (4 * q + 2)) (I 65 (4 * q + 3))) : ∃ v, v ≤ 15 ∧ mrI I p q = nI v := by
  unfold mrI
  split
  · exact ⟨0, by decide, by decide⟩
  · rename_i h
    have h9 : I 65 (4 * q) ≤ 9 := Int32.not_lt.mp (fun z => h (Or.inl z))
    have h6 : ¬ I 65 (4 * q + 3) = 6 := fun z => h (Or.inr z)
    have h789 : I 65 (4 * q) = 7 ∨ I 65 (4 * q) = 8 ∨ I 65 (4 * q) = 9 := by
      obtain ⟨v, hv, e⟩ := nI_of2 (M := 9) (n := 9) (by decide) (x := I 65 (4 * q)) (fun z => absurd (Int32.lt_of_le_of_lt hk z) (by decide)) h9
      rw [e] at hk ⊢
      have := (nI_leI (a := 7) (b := v) (by decide) (by omega)).mp hk
      rcases (show v = 7 ∨ v = 8 ∨ v = 9 by omega) with rfl | rfl | rfl
      · exact Or.inl rfl
      · exact Or.inr (Or.inl rfl)
      · exact Or.inr (Or.inr rfl)
    have hd : 0 ≤ I 65 (4 * q + 3) ∧ I 65 (4 * q + 3) ≤ 6 := by
      rcases h789 with e | e | e <;> (rw [e] at hmb; simp (decide := true) only [mbP, if_true, if_false] at hmb; exact hmb.2.2)
    obtain ⟨v, hv, e⟩ := nI_of2 (M := 6) (n := 6) (by decide) (x := I 65 (4 * q + 3)) (Int32.not_lt.mpr hd.1) hd.2
    rw [e] at h6 ⊢
    have : v ≠ 6 := fun z => h6 (by rw [z]; rfl)
    rw [nI_clamp (by omega)]
    exact hR v (by omega)
theorem i7 {x : Int32} (h : 0 ≤ x ∧ x ≤ 7) : ∃ v, v ≤ 7 ∧ x = nI v := nI_of2 (M := 7) (n := 7) (by decide) (Int32.not_lt.mpr h.1) h.2
theorem wr_ok {I : pI} {p q b : Nat} (hp : p < 6) (hR : RG I p) (hk : 7 ≤ I 65 (4 * q)) (hk2 : I 65 (4 * q) ≤ 11) (hmb : mbP (I 65 (4 * q)) (I 65 (4 * q + 1)) (I 65 (4 * q + 2)) (I 65 (4 * q + 3))) (hb : b ≤ 8) : ∃ w, w ≤ 7 ∧ wrI I p q b = nI (b + w) ∧ isR (I 65 (4 * q + 1)) := by
  obtain ⟨v, hv, e⟩ := mr_ok hp hR hk hmb
  have hm : isR (I 65 (4 * q + 1)) ∧ (0 ≤ I 65 (4 * q + 2) ∧ I 65 (4 * q + 2) ≤ 7) := by
    obtain ⟨k, hk11, ek⟩ := nI_of2 (M := 11) (n := 11) (by decide) (x := I 65 (4 * q)) (fun z => absurd (Int32.lt_of_le_of_lt hk z) (by decide)) hk2
    rw [ek] at hk hmb
    have := (nI_leI (a := 7) (b := k) (by decide) (by omega)).mp hk
    rcases (show k = 7 ∨ k = 8 ∨ k = 9 ∨ k = 10 ∨ k = 11 by omega) with rfl | rfl | rfl | rfl | rfl <;>
      (simp (decide := true) only [mbP, if_true, if_false] at hmb; exact ⟨hmb.1, hmb.2.1⟩)
  obtain ⟨u, hu, eu⟩ := i7 hm.2
  refine ⟨(u + v) % 8, by omega, ?_, hm.1⟩
  unfold wrI
  rw [e, eu, nI_add, show (8 : Int32) = nI 8 by decide, pk_rem (by omega) (by decide) (by decide), nI_add]
/-- the reference's shared instruction, but for the place -/
def srM (I : pI) (p q b : Nat) : pI :=
  if I 65 (4 * q) = 7 then upI I 70 (6 * p + (I 65 (4 * q + 1)).toNatClampNeg) (I 67 (wrI I p q b).toNatClampNeg)
  else if I 65 (4 * q) = 8 then upI I 67 (wrI I p q b).toNatClampNeg (I 70 (6 * p + (I 65 (4 * q + 1)).toNatClampNeg))
  else if I 65 (4 * q) = 9 then upI (upI I 67 (wrI I p q b).toNatClampNeg (I 70 (6 * p + (I 65 (4 * q + 1)).toNatClampNeg))) 70 (6 * p + (I 65 (4 * q + 1)).toNatClampNeg) (I 67 (wrI I p q b).toNatClampNeg)
  else if I 65 (4 * q) = 10 then upI (upI I 67 (wrI I p q b).toNatClampNeg ((I 67 (wrI I p q b).toNatClampNeg + I 65 (4 * q + 3)) - (I 67 (wrI I p q b).toNatClampNeg + I 65 (4 * q + 3)) / 16 * 16)) 70 (6 * p + (I 65 (4 * q + 1)).toNatClampNeg) (I 67 (wrI I p q b).toNatClampNeg)
  else if I 67 (wrI I p q b).toNatClampNeg = I 70 (6 * p + (I 65 (4 * q + 1)).toNatClampNeg) then upI (upI I 67 (wrI I p q b).toNatClampNeg (I 70 (6 * p + (I 65 (4 * q + 3)).toNatClampNeg))) 70 (6 * p + (I 65 (4 * q + 1)).toNatClampNeg) 1
  else upI (upI I 67 (wrI I p q b).toNatClampNeg (I 67 (wrI I p q b).toNatClampNeg)) 70 (6 * p + (I 65 (4 * q + 1)).toNatClampNeg) 0
def srI (I : pI) (p q b : Nat) : pI := upI (srM I p q b) 69 p (nI (q + 1))
abbrev m_X6_share : pT := (yX6_share.cls, cX6_share, 11, none, { frames := 0, cells := 0, slots := 0, locals := 0 }, [], none)
set_option maxRecDepth 100000 in
set_option maxHeartbeats 4000000 in
theorem j_share {p q b : Nat} (I : pI) (J : pJ) (hp : p < 6) (hq40 : q < 40) (hq : I 69 p = nI q) (hR : RG I p) (hk1 : 7 ≤ I 65 (4 * q)) (hk2 : I 65 (4 * q) ≤ 11) (hmb : mbP (I 65 (4 * q)) (I 65 (4 * q + 1)) (I 65 (4 * q + 2)) (I 65 (4 * q + 3))) (hb : b ≤ 8) : PW m_X6_share (pOv (fun I' J' => I' = srI I p q b ∧ J' = J)) 72 [(0, .ref 64), (1, .int (nI p)), (2, .int (nI b)), (3, .int (nI (4 * q))), (4, .int (I 65 (4 * q))), (5, .int (nI (6 * p) + I 65 (4 * q + 1))), (6, .int (I 65 (4 * q + 3)))] [.int (mrI I p q)] 84 I J pRs 0 0 := by
  have e40 : (4 : Int32) * nI q = nI (4 * q) := by rw [show (4 : Int32) = nI 4 by decide, pk_mul]
  have e41 : nI (4 * q) + (1 : Int32) = nI (4 * q + 1) := nI_1 _
  have e42 : nI (4 * q) + (2 : Int32) = nI (4 * q + 2) := by rw [show (2 : Int32) = nI 2 by decide, nI_add]
  have e43 : nI (4 * q) + (3 : Int32) = nI (4 * q + 3) := by rw [show (3 : Int32) = nI 3 by decide, nI_add]
  have e60 : (6 : Int32) * nI p = nI (6 * p) := by rw [show (6 : Int32) = nI 6 by decide, pk_mul]
  have c0 : (nI (4 * q)).toNatClampNeg = 4 * q := nI_clamp (by omega)
  have c1 : (nI (4 * q + 1)).toNatClampNeg = 4 * q + 1 := nI_clamp (by omega)
  have c2 : (nI (4 * q + 2)).toNatClampNeg = 4 * q + 2 := nI_clamp (by omega)
  have c3 : (nI (4 * q + 3)).toNatClampNeg = 4 * q + 3 := nI_clamp (by omega)
  obtain ⟨w, hw7, ew, hA⟩ := wr_ok (b := b) hp hR hk1 hk2 hmb hb
  refine pw_istore dX6_share_72 (by decide) ?_
  refine pw_iload_n dX6_share_74 rfl ?_
  refine pw_aload_n dX6_share_75 rfl ?_
  refine pw_getr dX6_share_76 fl_X6_16 rfl rfl (by decide) (by decide) rfl ?_
  refine pw_iload_n dX6_share_79 rfl ?_
  refine pw_iconst (v := 2) dX6_share_80 (by decide) ?_
  refine pw_iadd dX6_share_81 ?_
  rw [e42]
  refine pw_iald dX6_share_82 rfl (by decide) (by decide) (vp_in_nI (by omega) (by decide)) ?_
  rw [c2]
  refine pw_iload dX6_share_83 rfl ?_
  refine pw_iadd dX6_share_85 ?_
  refine pw_bipush (v := 8) dX6_share_86 (by decide) ?_
  refine pw_irem dX6_share_88 (by decide) ?_
  refine pw_iadd dX6_share_89 ?_
  rw [show nI b + ((I 65 (4 * q + 2) + mrI I p q) - (I 65 (4 * q + 2) + mrI I p q) / 8 * 8) = wrI I p q b from rfl]
  refine pw_istore dX6_share_90 (by decide) ?_
  refine pw_aload_n dX6_share_92 rfl ?_
  refine pw_getr dX6_share_93 fl_X6_23 rfl rfl (by decide) (by decide) rfl ?_
  refine pw_iload dX6_share_96 rfl ?_
  refine pw_iald dX6_share_98 rfl (by decide) (by decide) (by rw [ew]; exact vp_in_nI (by omega) (by decide)) ?_
  refine pw_istore dX6_share_99 (by decide) ?_
  refine pw_iload dX6_share_101 rfl ?_
  refine pw_bipush (v := 7) dX6_share_103 (by decide) ?_
  refine pw_icmp_ne (tgt := 120) dX6_share_105 (by decide) (fun h105 => ?_) (fun h105 => ?_)
  · refine pw_iload dX6_share_120 rfl ?_
    refine pw_bipush (v := 8) dX6_share_122 (by decide) ?_
    refine pw_icmp_ne (tgt := 144) dX6_share_124 (by decide) (fun h124 => ?_) (fun h124 => ?_)
    · refine pw_iload dX6_share_144 rfl ?_
      refine pw_bipush (v := 9) dX6_share_146 (by decide) ?_
      refine pw_icmp_ne (tgt := 177) dX6_share_148 (by decide) (fun h148 => ?_) (fun h148 => ?_)
      · refine pw_iload dX6_share_177 rfl ?_
        refine pw_bipush (v := 10) dX6_share_179 (by decide) ?_
        refine pw_icmp_ne (tgt := 211) dX6_share_181 (by decide) (fun h181 => ?_) (fun h181 => ?_)
        · refine pw_iload dX6_share_211 rfl ?_
          refine pw_aload_n dX6_share_213 rfl ?_
          refine pw_getr dX6_share_214 fl_X6_32 rfl rfl (by decide) (by decide) rfl ?_
          refine pw_iload dX6_share_217 rfl ?_
          refine pw_iald dX6_share_219 rfl (by decide) (by decide) (ix_in hp hA) ?_
          rw [ix_cl hp hA]
          refine pw_icmp_ne (tgt := 227) dX6_share_220 (by decide) (fun h220 => ?_) (fun h220 => ?_)
          · refine pw_iconst (v := 0) dX6_share_227 (by decide) ?_
            refine pw_istore dX6_share_228 (by decide) ?_
            refine pw_aload_n dX6_share_230 rfl ?_
            refine pw_getr dX6_share_231 fl_X6_23 rfl rfl (by decide) (by decide) rfl ?_
            refine pw_iload dX6_share_234 rfl ?_
            refine pw_iload dX6_share_236 rfl ?_
            refine pw_if_eq (tgt := 256) dX6_share_238 (by decide) (fun h238 => ?_) (fun h238 => ?_)
            · refine pw_iload dX6_share_256 rfl ?_
              refine pw_iast dX6_share_258 rfl (by decide) (by decide) (by rw [ew]; exact vp_in_nI (by omega) (by decide)) ?_
              refine pw_aload_n dX6_share_259 rfl ?_
              refine pw_getr dX6_share_260 fl_X6_32 rfl rfl (by decide) (by decide) rfl ?_
              refine pw_iload dX6_share_263 rfl ?_
              refine pw_iload dX6_share_265 rfl ?_
              refine pw_if_eq (tgt := 274) dX6_share_267 (by decide) (fun h267 => ?_) (fun h267 => ?_)
              · refine pw_iconst (v := 0) dX6_share_274 (by decide) ?_
                refine pw_iast dX6_share_275 rfl (by decide) (by decide) (ix_in hp hA) ?_
                refine pw_aload_n dX6_share_276 rfl ?_
                refine pw_getr dX6_share_277 fl_X6_29 rfl rfl (by decide) (by decide) rfl ?_
                refine pw_iload_n dX6_share_280 rfl ?_
                refine pw_dup2 dX6_share_281 rfl rfl ?_
                refine pw_iald dX6_share_282 rfl (by decide) (by decide) (vp_in_nI (by omega) (by decide)) ?_
                refine pw_iconst (v := 1) dX6_share_283 (by decide) ?_
                refine pw_iadd dX6_share_284 ?_
                rw [nI_clamp (show p < 2 ^ 31 by omega)]
                first | rw [upI_a (show (69 : Nat) ≠ 70 by decide), upI_a (show (69 : Nat) ≠ 67 by decide), hq, nI_1] | rw [upI_a (show (69 : Nat) ≠ 70 by decide), hq, nI_1] | rw [upI_a (show (69 : Nat) ≠ 67 by decide), hq, nI_1]
                refine pw_iast dX6_share_285 rfl (by decide) (by decide) (vp_in_nI (by omega) (by decide)) ?_
                refine pw_vret dX6_share_286 rfl (by decide) (by decide) ?_
                rw [nI_clamp (show p < 2 ^ 31 by omega)]
                refine ⟨rfl, rfl, rfl, ?_, rfl⟩
                first | (simp [srI, srM, h105]; done) | (simp [srI, srM, h105, h124]; done) | (simp [srI, srM, h105, h124, h148]; done) | (simp [srI, srM, h105, h124, h148, h181]; done) | (simp [srI, srM, h105, h124, h148, h181, h220, ix_cl hp hA]; done)
              · exact absurd rfl h267
            · exact absurd rfl h238
          · refine pw_iconst (v := 1) dX6_share_223 (by decide) ?_
            refine pw_goto (tgt := 228) dX6_share_224 (by decide) ?_
            refine pw_istore dX6_share_228 (by decide) ?_
            refine pw_aload_n dX6_share_230 rfl ?_
            refine pw_getr dX6_share_231 fl_X6_23 rfl rfl (by decide) (by decide) rfl ?_
            refine pw_iload dX6_share_234 rfl ?_
            refine pw_iload dX6_share_236 rfl ?_
            refine pw_if_eq (tgt := 256) dX6_share_238 (by decide) (fun h238_1 => ?_) (fun h238_1 => ?_)
            · exact absurd h238_1 (by decide)
            · have hD : isR (I 65 (4 * q + 3)) := by
                have k11 : I 65 (4 * q) = 11 := by
                  obtain ⟨k, hk11, ek⟩ := nI_of2 (M := 11) (n := 11) (by decide) (x := I 65 (4 * q)) (fun z => absurd (Int32.lt_of_le_of_lt hk1 z) (by decide)) hk2
                  rw [ek] at hk1 h105 h124 h148 h181 ⊢
                  have := (nI_leI (a := 7) (b := k) (by decide) (by omega)).mp hk1
                  rcases (show k = 7 ∨ k = 8 ∨ k = 9 ∨ k = 10 ∨ k = 11 by omega) with rfl | rfl | rfl | rfl | rfl
                  · exact absurd rfl h105
                  · exact absurd rfl h124
                  · exact absurd rfl h148
                  · exact absurd rfl h181
                  · rfl
                rw [k11] at hmb
                simp (decide := true) only [mbP, if_true, if_false] at hmb
                exact hmb.2.2
              refine pw_aload_n dX6_share_241 rfl ?_
              refine pw_getr dX6_share_242 fl_X6_32 rfl rfl (by decide) (by decide) rfl ?_
              refine pw_bipush (v := 6) dX6_share_245 (by decide) ?_
              refine pw_iload_n dX6_share_247 rfl ?_
              refine pw_imul dX6_share_248 ?_
              rw [e60]
              refine pw_iload dX6_share_249 rfl ?_
              refine pw_iadd dX6_share_251 ?_
              refine pw_iald dX6_share_252 rfl (by decide) (by decide) (ix_in hp hD) ?_
              rw [ix_cl hp hD]
              refine pw_goto (tgt := 258) dX6_share_253 (by decide) ?_
              refine pw_iast dX6_share_258 rfl (by decide) (by decide) (by rw [ew]; exact vp_in_nI (by omega) (by decide)) ?_
              refine pw_aload_n dX6_share_259 rfl ?_
              refine pw_getr dX6_share_260 fl_X6_32 rfl rfl (by decide) (by decide) rfl ?_
              refine pw_iload dX6_share_263 rfl ?_
              refine pw_iload dX6_share_265 rfl ?_
              refine pw_if_eq (tgt := 274) dX6_share_267 (by decide) (fun h267_1 => ?_) (fun h267_1 => ?_)
              · exact absurd h267_1 (by decide)
              · refine pw_iconst (v := 1) dX6_share_270 (by decide) ?_
                refine pw_goto (tgt := 275) dX6_share_271 (by decide) ?_
                refine pw_iast dX6_share_275 rfl (by decide) (by decide) (ix_in hp hA) ?_
                refine pw_aload_n dX6_share_276 rfl ?_
                refine pw_getr dX6_share_277 fl_X6_29 rfl rfl (by decide) (by decide) rfl ?_
                refine pw_iload_n dX6_share_280 rfl ?_
                refine pw_dup2 dX6_share_281 rfl rfl ?_
                refine pw_iald dX6_share_282 rfl (by decide) (by decide) (vp_in_nI (by omega) (by decide)) ?_
                refine pw_iconst (v := 1) dX6_share_283 (by decide) ?_
                refine pw_iadd dX6_share_284 ?_
                rw [nI_clamp (show p < 2 ^ 31 by omega)]
                first | rw [upI_a (show (69 : Nat) ≠ 70 by decide), upI_a (show (69 : Nat) ≠ 67 by decide), hq, nI_1] | rw [upI_a (show (69 : Nat) ≠ 70 by decide), hq, nI_1] | rw [upI_a (show (69 : Nat) ≠ 67 by decide), hq, nI_1]
                refine pw_iast dX6_share_285 rfl (by decide) (by decide) (vp_in_nI (by omega) (by decide)) ?_
                refine pw_vret dX6_share_286 rfl (by decide) (by decide) ?_
                rw [nI_clamp (show p < 2 ^ 31 by omega)]
                refine ⟨rfl, rfl, rfl, ?_, rfl⟩
                first | (simp [srI, srM, h105]; done) | (simp [srI, srM, h105, h124]; done) | (simp [srI, srM, h105, h124, h148]; done) | (simp [srI, srM, h105, h124, h148, h181]; done) | (simp [srI, srM, h105, h124, h148, h181, h220, ix_cl hp hA]; done)
        · refine pw_aload_n dX6_share_184 rfl ?_
          refine pw_getr dX6_share_185 fl_X6_23 rfl rfl (by decide) (by decide) rfl ?_
          refine pw_iload dX6_share_188 rfl ?_
          refine pw_iload dX6_share_190 rfl ?_
          refine pw_iload dX6_share_192 rfl ?_
          refine pw_iadd dX6_share_194 ?_
          refine pw_bipush (v := 16) dX6_share_195 (by decide) ?_
          refine pw_irem dX6_share_197 (by decide) ?_
          refine pw_iast dX6_share_198 rfl (by decide) (by decide) (by rw [ew]; exact vp_in_nI (by omega) (by decide)) ?_
          refine pw_aload_n dX6_share_199 rfl ?_
          refine pw_getr dX6_share_200 fl_X6_32 rfl rfl (by decide) (by decide) rfl ?_
          refine pw_iload dX6_share_203 rfl ?_
          refine pw_iload dX6_share_205 rfl ?_
          refine pw_iast dX6_share_207 rfl (by decide) (by decide) (ix_in hp hA) ?_
          rw [ix_cl hp hA]
          refine pw_goto (tgt := 276) dX6_share_208 (by decide) ?_
          refine pw_aload_n dX6_share_276 rfl ?_
          refine pw_getr dX6_share_277 fl_X6_29 rfl rfl (by decide) (by decide) rfl ?_
          refine pw_iload_n dX6_share_280 rfl ?_
          refine pw_dup2 dX6_share_281 rfl rfl ?_
          refine pw_iald dX6_share_282 rfl (by decide) (by decide) (vp_in_nI (by omega) (by decide)) ?_
          refine pw_iconst (v := 1) dX6_share_283 (by decide) ?_
          refine pw_iadd dX6_share_284 ?_
          rw [nI_clamp (show p < 2 ^ 31 by omega)]
          first | rw [upI_a (show (69 : Nat) ≠ 70 by decide), upI_a (show (69 : Nat) ≠ 67 by decide), hq, nI_1] | rw [upI_a (show (69 : Nat) ≠ 70 by decide), hq, nI_1] | rw [upI_a (show (69 : Nat) ≠ 67 by decide), hq, nI_1]
          refine pw_iast dX6_share_285 rfl (by decide) (by decide) (vp_in_nI (by omega) (by decide)) ?_
          refine pw_vret dX6_share_286 rfl (by decide) (by decide) ?_
          rw [nI_clamp (show p < 2 ^ 31 by omega)]
          refine ⟨rfl, rfl, rfl, ?_, rfl⟩
          first | (simp [srI, srM, h105]; done) | (simp [srI, srM, h105, h124]; done) | (simp [srI, srM, h105, h124, h148]; done) | (simp [srI, srM, h105, h124, h148, h181]; done) | (simp [srI, srM, h105, h124, h148, h181, h220, ix_cl hp hA]; done)
      · refine pw_aload_n dX6_share_151 rfl ?_
        refine pw_getr dX6_share_152 fl_X6_23 rfl rfl (by decide) (by decide) rfl ?_
        refine pw_iload dX6_share_155 rfl ?_
        refine pw_aload_n dX6_share_157 rfl ?_
        refine pw_getr dX6_share_158 fl_X6_32 rfl rfl (by decide) (by decide) rfl ?_
        refine pw_iload dX6_share_161 rfl ?_
        refine pw_iald dX6_share_163 rfl (by decide) (by decide) (ix_in hp hA) ?_
        rw [ix_cl hp hA]
        refine pw_iast dX6_share_164 rfl (by decide) (by decide) (by rw [ew]; exact vp_in_nI (by omega) (by decide)) ?_
        refine pw_aload_n dX6_share_165 rfl ?_
        refine pw_getr dX6_share_166 fl_X6_32 rfl rfl (by decide) (by decide) rfl ?_
        refine pw_iload dX6_share_169 rfl ?_
        refine pw_iload dX6_share_171 rfl ?_
        refine pw_iast dX6_share_173 rfl (by decide) (by decide) (ix_in hp hA) ?_
        rw [ix_cl hp hA]
        refine pw_goto (tgt := 276) dX6_share_174 (by decide) ?_
        refine pw_aload_n dX6_share_276 rfl ?_
        refine pw_getr dX6_share_277 fl_X6_29 rfl rfl (by decide) (by decide) rfl ?_
        refine pw_iload_n dX6_share_280 rfl ?_
        refine pw_dup2 dX6_share_281 rfl rfl ?_
        refine pw_iald dX6_share_282 rfl (by decide) (by decide) (vp_in_nI (by omega) (by decide)) ?_
        refine pw_iconst (v := 1) dX6_share_283 (by decide) ?_
        refine pw_iadd dX6_share_284 ?_
        rw [nI_clamp (show p < 2 ^ 31 by omega)]
        first | rw [upI_a (show (69 : Nat) ≠ 70 by decide), upI_a (show (69 : Nat) ≠ 67 by decide), hq, nI_1] | rw [upI_a (show (69 : Nat) ≠ 70 by decide), hq, nI_1] | rw [upI_a (show (69 : Nat) ≠ 67 by decide), hq, nI_1]
        refine pw_iast dX6_share_285 rfl (by decide) (by decide) (vp_in_nI (by omega) (by decide)) ?_
        refine pw_vret dX6_share_286 rfl (by decide) (by decide) ?_
        rw [nI_clamp (show p < 2 ^ 31 by omega)]
        refine ⟨rfl, rfl, rfl, ?_, rfl⟩
        first | (simp [srI, srM, h105]; done) | (simp [srI, srM, h105, h124]; done) | (simp [srI, srM, h105, h124, h148]; done) | (simp [srI, srM, h105, h124, h148, h181]; done) | (simp [srI, srM, h105, h124, h148, h181, h220, ix_cl hp hA]; done)
    · refine pw_aload_n dX6_share_127 rfl ?_
      refine pw_getr dX6_share_128 fl_X6_23 rfl rfl (by decide) (by decide) rfl ?_
      refine pw_iload dX6_share_131 rfl ?_
      refine pw_aload_n dX6_share_133 rfl ?_
      refine pw_getr dX6_share_134 fl_X6_32 rfl rfl (by decide) (by decide) rfl ?_
      refine pw_iload dX6_share_137 rfl ?_
      refine pw_iald dX6_share_139 rfl (by decide) (by decide) (ix_in hp hA) ?_
      rw [ix_cl hp hA]
      refine pw_iast dX6_share_140 rfl (by decide) (by decide) (by rw [ew]; exact vp_in_nI (by omega) (by decide)) ?_
      refine pw_goto (tgt := 276) dX6_share_141 (by decide) ?_
      refine pw_aload_n dX6_share_276 rfl ?_
      refine pw_getr dX6_share_277 fl_X6_29 rfl rfl (by decide) (by decide) rfl ?_
      refine pw_iload_n dX6_share_280 rfl ?_
      refine pw_dup2 dX6_share_281 rfl rfl ?_
      refine pw_iald dX6_share_282 rfl (by decide) (by decide) (vp_in_nI (by omega) (by decide)) ?_
      refine pw_iconst (v := 1) dX6_share_283 (by decide) ?_
      refine pw_iadd dX6_share_284 ?_
      rw [nI_clamp (show p < 2 ^ 31 by omega)]
      first | rw [upI_a (show (69 : Nat) ≠ 70 by decide), upI_a (show (69 : Nat) ≠ 67 by decide), hq, nI_1] | rw [upI_a (show (69 : Nat) ≠ 70 by decide), hq, nI_1] | rw [upI_a (show (69 : Nat) ≠ 67 by decide), hq, nI_1]
      refine pw_iast dX6_share_285 rfl (by decide) (by decide) (vp_in_nI (by omega) (by decide)) ?_
      refine pw_vret dX6_share_286 rfl (by decide) (by decide) ?_
      rw [nI_clamp (show p < 2 ^ 31 by omega)]
      refine ⟨rfl, rfl, rfl, ?_, rfl⟩
      first | (simp [srI, srM, h105]; done) | (simp [srI, srM, h105, h124]; done) | (simp [srI, srM, h105, h124, h148]; done) | (simp [srI, srM, h105, h124, h148, h181]; done) | (simp [srI, srM, h105, h124, h148, h181, h220, ix_cl hp hA]; done)
  · refine pw_aload_n dX6_share_108 rfl ?_
    refine pw_getr dX6_share_109 fl_X6_32 rfl rfl (by decide) (by decide) rfl ?_
    refine pw_iload dX6_share_112 rfl ?_
    refine pw_iload dX6_share_114 rfl ?_
    refine pw_iast dX6_share_116 rfl (by decide) (by decide) (ix_in hp hA) ?_
    rw [ix_cl hp hA]
    refine pw_goto (tgt := 276) dX6_share_117 (by decide) ?_
    refine pw_aload_n dX6_share_276 rfl ?_
    refine pw_getr dX6_share_277 fl_X6_29 rfl rfl (by decide) (by decide) rfl ?_
    refine pw_iload_n dX6_share_280 rfl ?_
    refine pw_dup2 dX6_share_281 rfl rfl ?_
    refine pw_iald dX6_share_282 rfl (by decide) (by decide) (vp_in_nI (by omega) (by decide)) ?_
    refine pw_iconst (v := 1) dX6_share_283 (by decide) ?_
    refine pw_iadd dX6_share_284 ?_
    rw [nI_clamp (show p < 2 ^ 31 by omega)]
    first | rw [upI_a (show (69 : Nat) ≠ 70 by decide), upI_a (show (69 : Nat) ≠ 67 by decide), hq, nI_1] | rw [upI_a (show (69 : Nat) ≠ 70 by decide), hq, nI_1] | rw [upI_a (show (69 : Nat) ≠ 67 by decide), hq, nI_1]
    refine pw_iast dX6_share_285 rfl (by decide) (by decide) (vp_in_nI (by omega) (by decide)) ?_
    refine pw_vret dX6_share_286 rfl (by decide) (by decide) ?_
    rw [nI_clamp (show p < 2 ^ 31 by omega)]
    refine ⟨rfl, rfl, rfl, ?_, rfl⟩
    first | (simp [srI, srM, h105]; done) | (simp [srI, srM, h105, h124]; done) | (simp [srI, srM, h105, h124, h148]; done) | (simp [srI, srM, h105, h124, h148, h181]; done) | (simp [srI, srM, h105, h124, h148, h181, h220, ix_cl hp hA]; done)
theorem mr_R {I : pI} {q : Nat} (hk : 7 ≤ I 65 (4 * q)) (h9' : ¬ 9 < I 65 (4 * q)) (h6 : I 65 (4 * q + 3) ≠ 6) (hmb : mbP (I 65 (4 * q)) (I 65 (4 * q + 1)) (I 65 (4 * q + 2)) (I 65 (4 * q + 3))) : isR (I 65 (4 * q + 3)) := by
  obtain ⟨v, hv, e⟩ := nI_of2 (M := 9) (n := 9) (by decide) (x := I 65 (4 * q)) (fun z => absurd (Int32.lt_of_le_of_lt hk z) (by decide)) (Int32.not_lt.mp h9')
  rw [e] at hk hmb
  have := (nI_leI (a := 7) (b := v) (by decide) (by omega)).mp hk
  have hd : 0 ≤ I 65 (4 * q + 3) ∧ I 65 (4 * q + 3) ≤ 6 := by
    rcases (show v = 7 ∨ v = 8 ∨ v = 9 by omega) with rfl | rfl | rfl <;> (simp (decide := true) only [mbP, if_true, if_false] at hmb; exact hmb.2.2)
  obtain ⟨u, hu, eu⟩ := nI_of2 (M := 6) (n := 6) (by decide) (x := I 65 (4 * q + 3)) (Int32.not_lt.mpr hd.1) hd.2
  rw [eu] at h6 ⊢
  have : u ≠ 6 := fun z => h6 (by rw [z]; rfl)
  exact ⟨nI_le (a := 0) (by omega) (by omega), nI_le (b := 5) (by omega) (by decide)⟩
set_option maxRecDepth 100000 in
set_option maxHeartbeats 4000000 in
theorem r_share {p q b : Nat} (I : pI) (J : pJ) (hp : p < 6) (hq40 : q < 40) (hq : I 69 p = nI q) (hR : RG I p) (hk1 : 7 ≤ I 65 (4 * q)) (hk2 : I 65 (4 * q) ≤ 11) (hmb : mbP (I 65 (4 * q)) (I 65 (4 * q + 1)) (I 65 (4 * q + 2)) (I 65 (4 * q + 3))) (hb : b ≤ 8) : pMet yX6_share (pws yX6_share cX6_share 11 none) { frames := 0, cells := 0, slots := 0, locals := 0 } [.ref 64, .int (nI p), .int (nI b)] 84 I J pRs (pOv (fun I' J' => I' = srI I p q b ∧ J' = J)) := by
  have e40 : (4 : Int32) * nI q = nI (4 * q) := by rw [show (4 : Int32) = nI 4 by decide, pk_mul]
  have e41 : nI (4 * q) + (1 : Int32) = nI (4 * q + 1) := nI_1 _
  have e42 : nI (4 * q) + (2 : Int32) = nI (4 * q + 2) := by rw [show (2 : Int32) = nI 2 by decide, nI_add]
  have e43 : nI (4 * q) + (3 : Int32) = nI (4 * q + 3) := by rw [show (3 : Int32) = nI 3 by decide, nI_add]
  have e60 : (6 : Int32) * nI p = nI (6 * p) := by rw [show (6 : Int32) = nI 6 by decide, pk_mul]
  have c0 : (nI (4 * q)).toNatClampNeg = 4 * q := nI_clamp (by omega)
  have c1 : (nI (4 * q + 1)).toNatClampNeg = 4 * q + 1 := nI_clamp (by omega)
  have c2 : (nI (4 * q + 2)).toNatClampNeg = 4 * q + 2 := nI_clamp (by omega)
  have c3 : (nI (4 * q + 3)).toNatClampNeg = 4 * q + 3 := nI_clamp (by omega)
  obtain ⟨w, hw7, ew, hA⟩ := wr_ok (b := b) hp hR hk1 hk2 hmb hb
  refine pMet_of (by decide) (Nat.le_of_ble_eq_true rfl) ?_
  refine pw_iconst (v := 4) dX6_share_0 (by decide) ?_
  refine pw_aload_n dX6_share_1 rfl ?_
  refine pw_getr dX6_share_2 fl_X6_29 rfl rfl (by decide) (by decide) rfl ?_
  refine pw_iload_n dX6_share_5 rfl ?_
  refine pw_iald dX6_share_6 rfl (by decide) (by decide) (vp_in_nI (by omega) (by decide)) ?_
  rw [nI_clamp (show p < 2 ^ 31 by omega)]
  rw [hq]
  refine pw_imul dX6_share_7 ?_
  rw [e40]
  refine pw_istore_n dX6_share_8 (by decide) ?_
  refine pw_aload_n dX6_share_9 rfl ?_
  refine pw_getr dX6_share_10 fl_X6_16 rfl rfl (by decide) (by decide) rfl ?_
  refine pw_iload_n dX6_share_13 rfl ?_
  refine pw_iald dX6_share_14 rfl (by decide) (by decide) (vp_in_nI (by omega) (by decide)) ?_
  rw [c0]
  refine pw_istore dX6_share_15 (by decide) ?_
  refine pw_bipush (v := 6) dX6_share_17 (by decide) ?_
  refine pw_iload_n dX6_share_19 rfl ?_
  refine pw_imul dX6_share_20 ?_
  rw [e60]
  refine pw_aload_n dX6_share_21 rfl ?_
  refine pw_getr dX6_share_22 fl_X6_16 rfl rfl (by decide) (by decide) rfl ?_
  refine pw_iload_n dX6_share_25 rfl ?_
  refine pw_iconst (v := 1) dX6_share_26 (by decide) ?_
  refine pw_iadd dX6_share_27 ?_
  rw [e41]
  refine pw_iald dX6_share_28 rfl (by decide) (by decide) (vp_in_nI (by omega) (by decide)) ?_
  rw [c1]
  refine pw_iadd dX6_share_29 ?_
  refine pw_istore dX6_share_30 (by decide) ?_
  refine pw_aload_n dX6_share_32 rfl ?_
  refine pw_getr dX6_share_33 fl_X6_16 rfl rfl (by decide) (by decide) rfl ?_
  refine pw_iload_n dX6_share_36 rfl ?_
  refine pw_iconst (v := 3) dX6_share_37 (by decide) ?_
  refine pw_iadd dX6_share_38 ?_
  rw [e43]
  refine pw_iald dX6_share_39 rfl (by decide) (by decide) (vp_in_nI (by omega) (by decide)) ?_
  rw [c3]
  refine pw_istore dX6_share_40 (by decide) ?_
  refine pw_iload dX6_share_42 rfl ?_
  refine pw_bipush (v := 9) dX6_share_44 (by decide) ?_
  refine pw_icmp_gt (tgt := 56) dX6_share_46 (by decide) (fun h46 => ?_) (fun h46 => ?_)
  · refine pw_iconst (v := 0) dX6_share_56 (by decide) ?_
    refine pw_goto (tgt := 72) dX6_share_57 (by decide) ?_
    refine pw_loc (L' := [(0, .ref 64), (1, .int (nI p)), (2, .int (nI b)), (3, .int (nI (4 * q))), (4, .int (I 65 (4 * q))), (5, .int (nI (6 * p) + I 65 (4 * q + 1))), (6, .int (I 65 (4 * q + 3)))]) rfl ?_
    rw [show (0 : Int32) = mrI I p q from by rw [mrI, if_pos (Or.inl h46)]]
    exact j_share I J hp hq40 hq hR hk1 hk2 hmb hb
  · refine pw_iload dX6_share_49 rfl ?_
    refine pw_bipush (v := 6) dX6_share_51 (by decide) ?_
    refine pw_icmp_ne (tgt := 60) dX6_share_53 (by decide) (fun h53 => ?_) (fun h53 => ?_)
    · refine pw_aload_n dX6_share_60 rfl ?_
      refine pw_getr dX6_share_61 fl_X6_32 rfl rfl (by decide) (by decide) rfl ?_
      refine pw_bipush (v := 6) dX6_share_64 (by decide) ?_
      refine pw_iload_n dX6_share_66 rfl ?_
      refine pw_imul dX6_share_67 ?_
      rw [e60]
      have hD : isR (I 65 (4 * q + 3)) := mr_R hk1 h46 h53 hmb
      refine pw_iload dX6_share_68 rfl ?_
      refine pw_iadd dX6_share_70 ?_
      refine pw_iald dX6_share_71 rfl (by decide) (by decide) (ix_in hp hD) ?_
      rw [ix_cl hp hD]
      refine pw_loc (L' := [(0, .ref 64), (1, .int (nI p)), (2, .int (nI b)), (3, .int (nI (4 * q))), (4, .int (I 65 (4 * q))), (5, .int (nI (6 * p) + I 65 (4 * q + 1))), (6, .int (I 65 (4 * q + 3)))]) rfl ?_
      rw [show I 70 (6 * p + (I 65 (4 * q + 3)).toNatClampNeg) = mrI I p q from by rw [mrI, if_neg (fun z => z.elim h46 h53)]]
      exact j_share I J hp hq40 hq hR hk1 hk2 hmb hb
    · refine pw_iconst (v := 0) dX6_share_56 (by decide) ?_
      refine pw_goto (tgt := 72) dX6_share_57 (by decide) ?_
      refine pw_loc (L' := [(0, .ref 64), (1, .int (nI p)), (2, .int (nI b)), (3, .int (nI (4 * q))), (4, .int (I 65 (4 * q))), (5, .int (nI (6 * p) + I 65 (4 * q + 1))), (6, .int (I 65 (4 * q + 3)))]) rfl ?_
      rw [show (0 : Int32) = mrI I p q from by rw [mrI, if_pos (Or.inr h53)]]
      exact j_share I J hp hq40 hq hR hk1 hk2 hmb hb
