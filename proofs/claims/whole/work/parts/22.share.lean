/-! HALLS: h is 43 (the museum's) or 50 (the judge's); its contenders lie at h + 2 + p -/
theorem hl_h {h : Nat} (hh : h = 43 ∨ h = 50) : (pS h).1 = 1 := by rcases hh with rfl | rfl <;> rfl
theorem hl_84 {h : Nat} (hh : h = 43 ∨ h = 50) : h < 84 := by omega
theorem hl_pr {h : Nat} (hh : h = 43 ∨ h = 50) : pRs h 0 = some (h + 1) := by rcases hh with rfl | rfl <;> rfl
theorem hl_ar {h : Nat} (hh : h = 43 ∨ h = 50) : pS (h + 1) = (10, 3) := by rcases hh with rfl | rfl <;> rfl
theorem hl_84' {h : Nat} (hh : h = 43 ∨ h = 50) : h + 1 < 84 := by omega
theorem hl_at {h p : Nat} (hh : h = 43 ∨ h = 50) (hp : p < 3) : pRs (h + 1) (nI p).toNatClampNeg = some (h + 2 + p) := by
  rw [nI_clamp (by omega)]
  rcases hh with rfl | rfl <;> rfl
theorem hl_c {h p : Nat} (hh : h = 43 ∨ h = 50) (hp : p < 3) : (pS (h + 2 + p)).1 = 0 := by
  rcases hh with rfl | rfl
  · exact pS_con hp
  · exact pS_coj hp
theorem hl_84c {h p : Nat} (hh : h = 43 ∨ h = 50) (hp : p < 3) : h + 2 + p < 84 := by omega
theorem pk_ne {a b x y : Nat} (ha : (pS a).1 = x) (hb : (pS b).1 = y) (h : x ≠ y) : a ≠ b := fun e => h (by rw [← ha, ← hb, e])
/-- which word a shared instruction means -/
def atS (I : pI) (it now : Nat) : Int32 := if I now 0 ≤ 9 ∧ I now 3 ≠ 6 then (I now 2 + nib (I it 2) (I now 3)) - (I now 2 + nib (I it 2) (I now 3)) / 8 * 8 else I now 2
/-- Hall.doShared on the memory, but for the place -/
def dSm (I : pI) (h it now : Nat) : pI :=
  if I now 0 = 7 then upI I it 2 (wnib (I it 2) (I now 1) (nib (I h 2) (atS I it now)))
  else if I now 0 = 8 then upI I h 2 (wnib (I h 2) (atS I it now) (nib (I it 2) (I now 1)))
  else if I now 0 = 9 then upI (upI I h 2 (wnib (I h 2) (atS I it now) (nib (I it 2) (I now 1)))) it 2 (wnib (I it 2) (I now 1) (nib (I h 2) (atS I it now)))
  else if I now 0 = 10 then upI (upI I h 2 (wnib (I h 2) (atS I it now) (nib (I h 2) (atS I it now) + I now 3))) it 2 (wnib (I it 2) (I now 1) (nib (I h 2) (atS I it now)))
  else if nib (I h 2) (atS I it now) = nib (I it 2) (I now 1) then upI (upI I h 2 (wnib (I h 2) (atS I it now) (nib (I it 2) (I now 3)))) it 2 (wnib (I it 2) (I now 1) 1)
  else upI (upI I h 2 (I h 2)) it 2 (wnib (I it 2) (I now 1) 0)
def dS (I : pI) (h it now : Nat) : pI := upI (dSm I h it now) it 1 (I it 1 + 1)
abbrev m_X1_doShared : pT := (yX1_doShared.cls, cX1_doShared, 8, none, { frames := 1, cells := 0, slots := 0, locals := 23 }, [], none)
set_option maxRecDepth 100000 in
set_option maxHeartbeats 4000000 in
theorem j_doShared_68 {h it now : Nat} (I : pI) (J : pJ) (hg : (pS h).1 = 1) (hc : h < 84) (hk : (pS it).1 = 0) (ha : it < 84) (hm : (pS now).1 = 2) (hb : now < 84) (w : Int32) (e1 : atS I it now = w) : PW m_X1_doShared (pOv (fun I' J' => I' = dS I h it now ∧ J' = J)) 68 [(0, .ref h), (1, .ref it), (2, .ref now), (3, .int (I it 2)), (4, .int (nib (I it 2) (I now 1)))] [.int w] 84 I J pRs 0 0 := by
  have n_ih : it ≠ h := pk_ne hk hg (by decide)
  have n_nh : now ≠ h := pk_ne hm hg (by decide)
  have n_in : now ≠ it := pk_ne hm hk (by decide)
  refine pw_istore dX1_doShared_68 (by decide) ?_
  refine pw_aload_n dX1_doShared_70 rfl ?_
  refine pw_geti dX1_doShared_71 fl_X1_22 rfl hg hc (by decide) ?_
  refine pw_iload dX1_doShared_74 rfl ?_
  refine pw_cNi (y := yX5_nibble) (cc := cX5_nibble) (nL := 2) (ret := (some .int)) (rm := { frames := 0, cells := 0, slots := 0, locals := 0 }) dX1_doShared_76 (c_nibble _ _ _ _) w_X1_83 rfl ⟨by decide, by decide⟩ (by decide) (by decide) rfl (Nat.le_of_ble_eq_true rfl) (fun x76 I76 J76 q76 => ?_)
  obtain ⟨rfl, rfl, rfl⟩ := rvq q76
  refine pw_istore dX1_doShared_79 (by decide) ?_
  refine pw_aload_n dX1_doShared_81 rfl ?_
  refine pw_geti dX1_doShared_82 fl_X1_51 rfl hm hb (by decide) ?_
  refine pw_tsw dX1_doShared_85 (fun i85 hi85 s85 => ?_) (fun o85 => ?_)
  · rcases (show i85 = 0 ∨ i85 = 1 ∨ i85 = 2 ∨ i85 = 3 by omega) with rfl | rfl | rfl | rfl
    · replace s85 := s85.trans (show _ = (7 : Int32) by decide)
      refine ⟨_, 116, rfl, by decide, ?_⟩
      refine pw_aload_n dX1_doShared_116 rfl ?_
      refine pw_iload_n dX1_doShared_117 rfl ?_
      refine pw_aload_n dX1_doShared_118 rfl ?_
      refine pw_geti dX1_doShared_119 fl_X1_73 rfl hm hb (by decide) ?_
      refine pw_iload dX1_doShared_122 rfl ?_
      refine pw_cNi (y := yX5_withNibble) (cc := cX5_withNibble) (nL := 4) (ret := (some .int)) (rm := { frames := 0, cells := 0, slots := 0, locals := 0 }) dX1_doShared_124 (c_withNibble _ _ _ _ _) w_X1_79 rfl ⟨by decide, by decide⟩ (by decide) (by decide) rfl (Nat.le_of_ble_eq_true rfl) (fun x124 I124 J124 q124 => ?_)
      obtain ⟨rfl, rfl, rfl⟩ := rvq q124
      refine pw_puti dX1_doShared_127 fl_X1_70 rfl rfl rfl rfl hk ha (by decide) ?_
      refine pw_goto (tgt := 279) dX1_doShared_130 (by decide) ?_
      refine pw_aload_n dX1_doShared_279 rfl ?_
      refine pw_dup dX1_doShared_280 rfl ?_
      refine pw_geti dX1_doShared_281 fl_X1_42 rfl hk ha (by decide) ?_
      refine pw_iconst (v := 1) dX1_doShared_284 (by decide) ?_
      refine pw_iadd dX1_doShared_285 ?_
      refine pw_puti dX1_doShared_286 fl_X1_42 rfl rfl rfl rfl hk ha (by decide) ?_
      refine pw_vret dX1_doShared_289 rfl (by decide) (by decide) ?_
      refine ⟨rfl, rfl, rfl, ?_, rfl⟩
      first | (simp [dS, dSm, s85, e1, upI_s, upI_a n_ih, upI_a n_nh, upI_k]; done) | (simp [dS, dSm, n7, n8, n9, n10, h225, e1, upI_s, upI_a n_ih, upI_a n_nh, upI_k]; done)
    · replace s85 := s85.trans (show _ = (8 : Int32) by decide)
      refine ⟨_, 133, rfl, by decide, ?_⟩
      refine pw_aload_n dX1_doShared_133 rfl ?_
      refine pw_aload_n dX1_doShared_134 rfl ?_
      refine pw_geti dX1_doShared_135 fl_X1_22 rfl hg hc (by decide) ?_
      refine pw_iload dX1_doShared_138 rfl ?_
      refine pw_iload dX1_doShared_140 rfl ?_
      refine pw_cNi (y := yX5_withNibble) (cc := cX5_withNibble) (nL := 4) (ret := (some .int)) (rm := { frames := 0, cells := 0, slots := 0, locals := 0 }) dX1_doShared_142 (c_withNibble _ _ _ _ _) w_X1_79 rfl ⟨by decide, by decide⟩ (by decide) (by decide) rfl (Nat.le_of_ble_eq_true rfl) (fun x142 I142 J142 q142 => ?_)
      obtain ⟨rfl, rfl, rfl⟩ := rvq q142
      refine pw_puti dX1_doShared_145 fl_X1_22 rfl rfl rfl rfl hg hc (by decide) ?_
      refine pw_goto (tgt := 279) dX1_doShared_148 (by decide) ?_
      refine pw_aload_n dX1_doShared_279 rfl ?_
      refine pw_dup dX1_doShared_280 rfl ?_
      refine pw_geti dX1_doShared_281 fl_X1_42 rfl hk ha (by decide) ?_
      refine pw_iconst (v := 1) dX1_doShared_284 (by decide) ?_
      refine pw_iadd dX1_doShared_285 ?_
      refine pw_puti dX1_doShared_286 fl_X1_42 rfl rfl rfl rfl hk ha (by decide) ?_
      refine pw_vret dX1_doShared_289 rfl (by decide) (by decide) ?_
      refine ⟨rfl, rfl, rfl, ?_, rfl⟩
      first | (simp [dS, dSm, s85, e1, upI_s, upI_a n_ih, upI_a n_nh, upI_k]; done) | (simp [dS, dSm, n7, n8, n9, n10, h225, e1, upI_s, upI_a n_ih, upI_a n_nh, upI_k]; done)
    · replace s85 := s85.trans (show _ = (9 : Int32) by decide)
      refine ⟨_, 151, rfl, by decide, ?_⟩
      refine pw_aload_n dX1_doShared_151 rfl ?_
      refine pw_aload_n dX1_doShared_152 rfl ?_
      refine pw_geti dX1_doShared_153 fl_X1_22 rfl hg hc (by decide) ?_
      refine pw_iload dX1_doShared_156 rfl ?_
      refine pw_iload dX1_doShared_158 rfl ?_
      refine pw_cNi (y := yX5_withNibble) (cc := cX5_withNibble) (nL := 4) (ret := (some .int)) (rm := { frames := 0, cells := 0, slots := 0, locals := 0 }) dX1_doShared_160 (c_withNibble _ _ _ _ _) w_X1_79 rfl ⟨by decide, by decide⟩ (by decide) (by decide) rfl (Nat.le_of_ble_eq_true rfl) (fun x160 I160 J160 q160 => ?_)
      obtain ⟨rfl, rfl, rfl⟩ := rvq q160
      refine pw_puti dX1_doShared_163 fl_X1_22 rfl rfl rfl rfl hg hc (by decide) ?_
      refine pw_aload_n dX1_doShared_166 rfl ?_
      refine pw_iload_n dX1_doShared_167 rfl ?_
      refine pw_aload_n dX1_doShared_168 rfl ?_
      refine pw_geti dX1_doShared_169 fl_X1_73 rfl hm hb (by decide) ?_
      refine pw_iload dX1_doShared_172 rfl ?_
      refine pw_cNi (y := yX5_withNibble) (cc := cX5_withNibble) (nL := 4) (ret := (some .int)) (rm := { frames := 0, cells := 0, slots := 0, locals := 0 }) dX1_doShared_174 (c_withNibble _ _ _ _ _) w_X1_79 rfl ⟨by decide, by decide⟩ (by decide) (by decide) rfl (Nat.le_of_ble_eq_true rfl) (fun x174 I174 J174 q174 => ?_)
      obtain ⟨rfl, rfl, rfl⟩ := rvq q174
      refine pw_puti dX1_doShared_177 fl_X1_70 rfl rfl rfl rfl hk ha (by decide) ?_
      refine pw_goto (tgt := 279) dX1_doShared_180 (by decide) ?_
      refine pw_aload_n dX1_doShared_279 rfl ?_
      refine pw_dup dX1_doShared_280 rfl ?_
      refine pw_geti dX1_doShared_281 fl_X1_42 rfl hk ha (by decide) ?_
      refine pw_iconst (v := 1) dX1_doShared_284 (by decide) ?_
      refine pw_iadd dX1_doShared_285 ?_
      refine pw_puti dX1_doShared_286 fl_X1_42 rfl rfl rfl rfl hk ha (by decide) ?_
      refine pw_vret dX1_doShared_289 rfl (by decide) (by decide) ?_
      refine ⟨rfl, rfl, rfl, ?_, rfl⟩
      first | (simp [dS, dSm, s85, e1, upI_s, upI_a n_ih, upI_a n_nh, upI_k]; done) | (simp [dS, dSm, n7, n8, n9, n10, h225, e1, upI_s, upI_a n_ih, upI_a n_nh, upI_k]; done)
    · replace s85 := s85.trans (show _ = (10 : Int32) by decide)
      refine ⟨_, 183, rfl, by decide, ?_⟩
      refine pw_aload_n dX1_doShared_183 rfl ?_
      refine pw_aload_n dX1_doShared_184 rfl ?_
      refine pw_geti dX1_doShared_185 fl_X1_22 rfl hg hc (by decide) ?_
      refine pw_iload dX1_doShared_188 rfl ?_
      refine pw_iload dX1_doShared_190 rfl ?_
      refine pw_aload_n dX1_doShared_192 rfl ?_
      refine pw_geti dX1_doShared_193 fl_X1_87 rfl hm hb (by decide) ?_
      refine pw_iadd dX1_doShared_196 ?_
      refine pw_cNi (y := yX5_withNibble) (cc := cX5_withNibble) (nL := 4) (ret := (some .int)) (rm := { frames := 0, cells := 0, slots := 0, locals := 0 }) dX1_doShared_197 (c_withNibble _ _ _ _ _) w_X1_79 rfl ⟨by decide, by decide⟩ (by decide) (by decide) rfl (Nat.le_of_ble_eq_true rfl) (fun x197 I197 J197 q197 => ?_)
      obtain ⟨rfl, rfl, rfl⟩ := rvq q197
      refine pw_puti dX1_doShared_200 fl_X1_22 rfl rfl rfl rfl hg hc (by decide) ?_
      refine pw_aload_n dX1_doShared_203 rfl ?_
      refine pw_iload_n dX1_doShared_204 rfl ?_
      refine pw_aload_n dX1_doShared_205 rfl ?_
      refine pw_geti dX1_doShared_206 fl_X1_73 rfl hm hb (by decide) ?_
      refine pw_iload dX1_doShared_209 rfl ?_
      refine pw_cNi (y := yX5_withNibble) (cc := cX5_withNibble) (nL := 4) (ret := (some .int)) (rm := { frames := 0, cells := 0, slots := 0, locals := 0 }) dX1_doShared_211 (c_withNibble _ _ _ _ _) w_X1_79 rfl ⟨by decide, by decide⟩ (by decide) (by decide) rfl (Nat.le_of_ble_eq_true rfl) (fun x211 I211 J211 q211 => ?_)
      obtain ⟨rfl, rfl, rfl⟩ := rvq q211
      refine pw_puti dX1_doShared_214 fl_X1_70 rfl rfl rfl rfl hk ha (by decide) ?_
      refine pw_goto (tgt := 279) dX1_doShared_217 (by decide) ?_
      refine pw_aload_n dX1_doShared_279 rfl ?_
      refine pw_dup dX1_doShared_280 rfl ?_
      refine pw_geti dX1_doShared_281 fl_X1_42 rfl hk ha (by decide) ?_
      refine pw_iconst (v := 1) dX1_doShared_284 (by decide) ?_
      refine pw_iadd dX1_doShared_285 ?_
      refine pw_puti dX1_doShared_286 fl_X1_42 rfl rfl rfl rfl hk ha (by decide) ?_
      refine pw_vret dX1_doShared_289 rfl (by decide) (by decide) ?_
      refine ⟨rfl, rfl, rfl, ?_, rfl⟩
      first | (simp [dS, dSm, s85, e1, upI_s, upI_a n_ih, upI_a n_nh, upI_k]; done) | (simp [dS, dSm, n7, n8, n9, n10, h225, e1, upI_s, upI_a n_ih, upI_a n_nh, upI_k]; done)
  · refine ⟨220, by decide, ?_⟩
    have n7 : ¬ I now 0 = 7 := fun e => by rw [e] at o85; revert o85; decide
    have n8 : ¬ I now 0 = 8 := fun e => by rw [e] at o85; revert o85; decide
    have n9 : ¬ I now 0 = 9 := fun e => by rw [e] at o85; revert o85; decide
    have n10 : ¬ I now 0 = 10 := fun e => by rw [e] at o85; revert o85; decide
    refine pw_aload_n dX1_doShared_220 rfl ?_
    refine pw_iload dX1_doShared_221 rfl ?_
    refine pw_iload dX1_doShared_223 rfl ?_
    refine pw_icmp_ne (tgt := 248) dX1_doShared_225 (by decide) (fun h225 => ?_) (fun h225 => ?_)
    · refine pw_aload_n dX1_doShared_248 rfl ?_
      refine pw_geti dX1_doShared_249 fl_X1_22 rfl hg hc (by decide) ?_
      refine pw_puti dX1_doShared_252 fl_X1_22 rfl rfl rfl rfl hg hc (by decide) ?_
      refine pw_aload_n dX1_doShared_255 rfl ?_
      refine pw_iload_n dX1_doShared_256 rfl ?_
      refine pw_aload_n dX1_doShared_257 rfl ?_
      refine pw_geti dX1_doShared_258 fl_X1_73 rfl hm hb (by decide) ?_
      refine pw_iload dX1_doShared_261 rfl ?_
      refine pw_iload dX1_doShared_263 rfl ?_
      refine pw_icmp_ne (tgt := 272) dX1_doShared_265 (by decide) (fun h265 => ?_) (fun h265 => ?_)
      · refine pw_iconst (v := 0) dX1_doShared_272 (by decide) ?_
        refine pw_cNi (y := yX5_withNibble) (cc := cX5_withNibble) (nL := 4) (ret := (some .int)) (rm := { frames := 0, cells := 0, slots := 0, locals := 0 }) dX1_doShared_273 (c_withNibble _ _ _ _ _) w_X1_79 rfl ⟨by decide, by decide⟩ (by decide) (by decide) rfl (Nat.le_of_ble_eq_true rfl) (fun x273 I273 J273 q273 => ?_)
        obtain ⟨rfl, rfl, rfl⟩ := rvq q273
        refine pw_puti dX1_doShared_276 fl_X1_70 rfl rfl rfl rfl hk ha (by decide) ?_
        refine pw_aload_n dX1_doShared_279 rfl ?_
        refine pw_dup dX1_doShared_280 rfl ?_
        refine pw_geti dX1_doShared_281 fl_X1_42 rfl hk ha (by decide) ?_
        refine pw_iconst (v := 1) dX1_doShared_284 (by decide) ?_
        refine pw_iadd dX1_doShared_285 ?_
        refine pw_puti dX1_doShared_286 fl_X1_42 rfl rfl rfl rfl hk ha (by decide) ?_
        refine pw_vret dX1_doShared_289 rfl (by decide) (by decide) ?_
        refine ⟨rfl, rfl, rfl, ?_, rfl⟩
        first | (simp [dS, dSm, s85, e1, upI_s, upI_a n_ih, upI_a n_nh, upI_k]; done) | (simp [dS, dSm, n7, n8, n9, n10, h225, e1, upI_s, upI_a n_ih, upI_a n_nh, upI_k]; done)
      · exact absurd h265 h225
    · refine pw_aload_n dX1_doShared_228 rfl ?_
      refine pw_geti dX1_doShared_229 fl_X1_22 rfl hg hc (by decide) ?_
      refine pw_iload dX1_doShared_232 rfl ?_
      refine pw_iload_n dX1_doShared_234 rfl ?_
      refine pw_aload_n dX1_doShared_235 rfl ?_
      refine pw_geti dX1_doShared_236 fl_X1_87 rfl hm hb (by decide) ?_
      refine pw_cNi (y := yX5_nibble) (cc := cX5_nibble) (nL := 2) (ret := (some .int)) (rm := { frames := 0, cells := 0, slots := 0, locals := 0 }) dX1_doShared_239 (c_nibble _ _ _ _) w_X1_83 rfl ⟨by decide, by decide⟩ (by decide) (by decide) rfl (Nat.le_of_ble_eq_true rfl) (fun x239 I239 J239 q239 => ?_)
      obtain ⟨rfl, rfl, rfl⟩ := rvq q239
      refine pw_cNi (y := yX5_withNibble) (cc := cX5_withNibble) (nL := 4) (ret := (some .int)) (rm := { frames := 0, cells := 0, slots := 0, locals := 0 }) dX1_doShared_242 (c_withNibble _ _ _ _ _) w_X1_79 rfl ⟨by decide, by decide⟩ (by decide) (by decide) rfl (Nat.le_of_ble_eq_true rfl) (fun x242 I242 J242 q242 => ?_)
      obtain ⟨rfl, rfl, rfl⟩ := rvq q242
      refine pw_goto (tgt := 252) dX1_doShared_245 (by decide) ?_
      refine pw_puti dX1_doShared_252 fl_X1_22 rfl rfl rfl rfl hg hc (by decide) ?_
      refine pw_aload_n dX1_doShared_255 rfl ?_
      refine pw_iload_n dX1_doShared_256 rfl ?_
      refine pw_aload_n dX1_doShared_257 rfl ?_
      refine pw_geti dX1_doShared_258 fl_X1_73 rfl hm hb (by decide) ?_
      refine pw_iload dX1_doShared_261 rfl ?_
      refine pw_iload dX1_doShared_263 rfl ?_
      refine pw_icmp_ne (tgt := 272) dX1_doShared_265 (by decide) (fun h265_1 => ?_) (fun h265_1 => ?_)
      · exact absurd h225 h265_1
      · refine pw_iconst (v := 1) dX1_doShared_268 (by decide) ?_
        refine pw_goto (tgt := 273) dX1_doShared_269 (by decide) ?_
        refine pw_cNi (y := yX5_withNibble) (cc := cX5_withNibble) (nL := 4) (ret := (some .int)) (rm := { frames := 0, cells := 0, slots := 0, locals := 0 }) dX1_doShared_273 (c_withNibble _ _ _ _ _) w_X1_79 rfl ⟨by decide, by decide⟩ (by decide) (by decide) rfl (Nat.le_of_ble_eq_true rfl) (fun x273_1 I273_1 J273_1 q273_1 => ?_)
        obtain ⟨rfl, rfl, rfl⟩ := rvq q273_1
        refine pw_puti dX1_doShared_276 fl_X1_70 rfl rfl rfl rfl hk ha (by decide) ?_
        refine pw_aload_n dX1_doShared_279 rfl ?_
        refine pw_dup dX1_doShared_280 rfl ?_
        refine pw_geti dX1_doShared_281 fl_X1_42 rfl hk ha (by decide) ?_
        refine pw_iconst (v := 1) dX1_doShared_284 (by decide) ?_
        refine pw_iadd dX1_doShared_285 ?_
        refine pw_puti dX1_doShared_286 fl_X1_42 rfl rfl rfl rfl hk ha (by decide) ?_
        refine pw_vret dX1_doShared_289 rfl (by decide) (by decide) ?_
        refine ⟨rfl, rfl, rfl, ?_, rfl⟩
        first | (simp [dS, dSm, s85, e1, upI_s, upI_a n_ih, upI_a n_nh, upI_k]; done) | (simp [dS, dSm, n7, n8, n9, n10, h225, e1, upI_s, upI_a n_ih, upI_a n_nh, upI_k]; done)
set_option maxRecDepth 100000 in
set_option maxHeartbeats 4000000 in
theorem c_doShared {h it now : Nat} (I : pI) (J : pJ) (hg : (pS h).1 = 1) (hc : h < 84) (hk : (pS it).1 = 0) (ha : it < 84) (hm : (pS now).1 = 2) (hb : now < 84) : pMet yX1_doShared (pws yX1_doShared cX1_doShared 8 none) { frames := 1, cells := 0, slots := 0, locals := 23 } [.ref h, .ref it, .ref now] 84 I J pRs (pOv (fun I' J' => I' = dS I h it now ∧ J' = J)) := by
  refine pMet_of (by decide) (Nat.le_of_ble_eq_true rfl) ?_
  refine pw_aload_n dX1_doShared_0 rfl ?_
  refine pw_geti dX1_doShared_1 fl_X1_70 rfl hk ha (by decide) ?_
  refine pw_istore_n dX1_doShared_4 (by decide) ?_
  refine pw_iload_n dX1_doShared_5 rfl ?_
  refine pw_aload_n dX1_doShared_6 rfl ?_
  refine pw_geti dX1_doShared_7 fl_X1_73 rfl hm hb (by decide) ?_
  refine pw_cNi (y := yX5_nibble) (cc := cX5_nibble) (nL := 2) (ret := (some .int)) (rm := { frames := 0, cells := 0, slots := 0, locals := 0 }) dX1_doShared_10 (c_nibble _ _ _ _) w_X1_83 rfl ⟨by decide, by decide⟩ (by decide) (by decide) rfl (Nat.le_of_ble_eq_true rfl) (fun x10 I10 J10 q10 => ?_)
  obtain ⟨rfl, rfl, rfl⟩ := rvq q10
  refine pw_istore dX1_doShared_13 (by decide) ?_
  refine pw_aload_n dX1_doShared_15 rfl ?_
  refine pw_geti dX1_doShared_16 fl_X1_51 rfl hm hb (by decide) ?_
  refine pw_bipush (v := 9) dX1_doShared_19 (by decide) ?_
  refine pw_icmp_gt (tgt := 37) dX1_doShared_21 (by decide) (fun h21 => ?_) (fun h21 => ?_)
  · refine pw_iconst (v := 0) dX1_doShared_37 (by decide) ?_
    refine pw_istore dX1_doShared_38 (by decide) ?_
    refine pw_iload dX1_doShared_40 rfl ?_
    refine pw_if_eq (tgt := 64) dX1_doShared_42 (by decide) (fun h42 => ?_) (fun h42 => ?_)
    · refine pw_aload_n dX1_doShared_64 rfl ?_
      refine pw_geti dX1_doShared_65 fl_X1_76 rfl hm hb (by decide) ?_
      refine pw_loc (L' := [(0, .ref h), (1, .ref it), (2, .ref now), (3, .int (I it 2)), (4, .int (nib (I it 2) (I now 1)))]) rfl ?_
      exact j_doShared_68 I J hg hc hk ha hm hb _ (by simp [atS, Int32.not_le.mpr h21])
    · exact absurd rfl h42
  · refine pw_aload_n dX1_doShared_24 rfl ?_
    refine pw_geti dX1_doShared_25 fl_X1_87 rfl hm hb (by decide) ?_
    refine pw_bipush (v := 6) dX1_doShared_28 (by decide) ?_
    refine pw_icmp_eq (tgt := 37) dX1_doShared_30 (by decide) (fun h30 => ?_) (fun h30 => ?_)
    · refine pw_iconst (v := 0) dX1_doShared_37 (by decide) ?_
      refine pw_istore dX1_doShared_38 (by decide) ?_
      refine pw_iload dX1_doShared_40 rfl ?_
      refine pw_if_eq (tgt := 64) dX1_doShared_42 (by decide) (fun h42_1 => ?_) (fun h42_1 => ?_)
      · refine pw_aload_n dX1_doShared_64 rfl ?_
        refine pw_geti dX1_doShared_65 fl_X1_76 rfl hm hb (by decide) ?_
        refine pw_loc (L' := [(0, .ref h), (1, .ref it), (2, .ref now), (3, .int (I it 2)), (4, .int (nib (I it 2) (I now 1)))]) rfl ?_
        exact j_doShared_68 I J hg hc hk ha hm hb _ (by simp [atS, h30])
      · exact absurd rfl h42_1
    · refine pw_iconst (v := 1) dX1_doShared_33 (by decide) ?_
      refine pw_goto (tgt := 38) dX1_doShared_34 (by decide) ?_
      refine pw_istore dX1_doShared_38 (by decide) ?_
      refine pw_iload dX1_doShared_40 rfl ?_
      refine pw_if_eq (tgt := 64) dX1_doShared_42 (by decide) (fun h42_2 => ?_) (fun h42_2 => ?_)
      · exact absurd h42_2 (by decide)
      · refine pw_aload_n dX1_doShared_45 rfl ?_
        refine pw_geti dX1_doShared_46 fl_X1_76 rfl hm hb (by decide) ?_
        refine pw_iload_n dX1_doShared_49 rfl ?_
        refine pw_aload_n dX1_doShared_50 rfl ?_
        refine pw_geti dX1_doShared_51 fl_X1_87 rfl hm hb (by decide) ?_
        refine pw_cNi (y := yX5_nibble) (cc := cX5_nibble) (nL := 2) (ret := (some .int)) (rm := { frames := 0, cells := 0, slots := 0, locals := 0 }) dX1_doShared_54 (c_nibble _ _ _ _) w_X1_83 rfl ⟨by decide, by decide⟩ (by decide) (by decide) rfl (Nat.le_of_ble_eq_true rfl) (fun x54 I54 J54 q54 => ?_)
        obtain ⟨rfl, rfl, rfl⟩ := rvq q54
        refine pw_iadd dX1_doShared_57 ?_
        refine pw_bipush (v := 8) dX1_doShared_58 (by decide) ?_
        refine pw_irem dX1_doShared_60 (by decide) ?_
        refine pw_goto (tgt := 68) dX1_doShared_61 (by decide) ?_
        refine pw_loc (L' := [(0, .ref h), (1, .ref it), (2, .ref now), (3, .int (I it 2)), (4, .int (nib (I it 2) (I now 1)))]) rfl ?_
        exact j_doShared_68 I J hg hc hk ha hm hb _ (by simp [atS, Int32.not_lt.mp h21, h30])
/-- the loop of Hall.enter: one more for each that is trying and past its door -/
def enB (I : pI) (a : Nat) : pI := if I a 0 = 1 ∧ I a 3 ≠ 0 then upI I a 4 (I a 4 + 1) else I
def enL (h : Nat) : Nat → Nat → pI → pI
  | 0, _, I => I
  | m + 1, i, I => enL h m (i + 1) (enB I (h + 2 + i))
def enA (I : pI) (it : Nat) : pI := upI (upI (upI I it 0 2) it 1 (I it 1 + 1)) it 3 0
theorem enB_o {I : pI} {a b k : Nat} (h : b ≠ a) : enB I a b k = I b k := by
  unfold enB; split
  · exact upI_a h
  · rfl
abbrev m_X1_enter : pT := (yX1_enter.cls, cX1_enter, 5, none, { frames := 0, cells := 0, slots := 0, locals := 0 }, [], none)
set_option maxRecDepth 100000 in
set_option maxHeartbeats 4000000 in
theorem l_enter {h : Nat} (hh : h = 43 ∨ h = 50) {c : Nat} (hc : c ≤ 3) (J : pJ) (Q : pQ) : ∀ (m i : Nat) (I : pI), i + m = c → I h 1 = nI c → Q (.inl none) 84 (enL h m i I) J pRs → PW m_X1_enter Q 29 [(0, .ref h), (3, .int (nI i))] [] 84 I J pRs 0 0 := by
  intro m
  induction m with
  | zero =>
    intro i I him hI hQ
    refine pw_iload_n dX1_enter_29 rfl ?_
    refine pw_aload_n dX1_enter_30 rfl ?_
    refine pw_geti dX1_enter_31 fl_X1_18 rfl (hl_h hh) (hl_84 hh) (by decide) ?_
    refine pw_icmp_ge (tgt := 79) dX1_enter_34 (by decide) (fun h34 => ?_) (fun h34 => ?_)
    · refine pw_vret dX1_enter_79 rfl (by decide) (by decide) ?_
      exact hQ
    · exact absurd (by rw [hI]; exact nI_le (by omega) (by omega)) h34
  | succ m ih =>
    intro i I him hI hQ
    refine pw_iload_n dX1_enter_29 rfl ?_
    refine pw_aload_n dX1_enter_30 rfl ?_
    refine pw_geti dX1_enter_31 fl_X1_18 rfl (hl_h hh) (hl_84 hh) (by decide) ?_
    refine pw_icmp_ge (tgt := 79) dX1_enter_34 (by decide) (fun h34 => ?_) (fun h34 => ?_)
    · exact absurd (by rw [hI] at h34; exact (nI_leI (by omega) (by omega)).mp h34) (by omega)
    · refine pw_aload_n dX1_enter_37 rfl ?_
      refine pw_getr dX1_enter_38 fl_X1_11 rfl (hl_h hh) (hl_84 hh) (by decide) (hl_pr hh) ?_
      refine pw_iload_n dX1_enter_41 rfl ?_
      refine pw_aaldC dX1_enter_42 (hl_ar hh) (hl_84' hh) (by decide) (vp_in_nI (by omega) (by decide)) (hl_at hh (by omega)) ?_
      refine pw_astore dX1_enter_43 (by decide) ?_
      refine pw_aload dX1_enter_45 rfl ?_
      refine pw_geti dX1_enter_47 fl_X1_28 rfl (hl_c hh (by omega)) (hl_84c hh (by omega)) (by decide) ?_
      refine pw_iconst (v := 1) dX1_enter_50 (by decide) ?_
      refine pw_icmp_ne (tgt := 73) dX1_enter_51 (by decide) (fun h51 => ?_) (fun h51 => ?_)
      · refine pw_iinc (v := nI (i + 1)) dX1_enter_73 rfl (by rw [nI_succ]; rfl) (by decide) ?_
        refine pw_goto (tgt := 29) dX1_enter_76 (by decide) ?_
        refine pw_loc (L' := [(0, .ref h), (3, .int (nI (i + 1)))]) rfl ?_
        have e9 : enB I (h + 2 + i) = I := by unfold enB; rw [if_neg (fun q => h51 q.1)]
        exact ih (i + 1) _ (by omega) (by rw [← e9, enB_o (by omega)]; exact hI) (by rw [← e9]; exact hQ)
      · refine pw_aload dX1_enter_54 rfl ?_
        refine pw_geti dX1_enter_56 fl_X1_90 rfl (hl_c hh (by omega)) (hl_84c hh (by omega)) (by decide) ?_
        refine pw_if_eq (tgt := 73) dX1_enter_59 (by decide) (fun h59 => ?_) (fun h59 => ?_)
        · refine pw_iinc (v := nI (i + 1)) dX1_enter_73 rfl (by rw [nI_succ]; rfl) (by decide) ?_
          refine pw_goto (tgt := 29) dX1_enter_76 (by decide) ?_
          refine pw_loc (L' := [(0, .ref h), (3, .int (nI (i + 1)))]) rfl ?_
          have e9 : enB I (h + 2 + i) = I := by unfold enB; rw [if_neg (fun q => q.2 h59)]
          exact ih (i + 1) _ (by omega) (by rw [← e9, enB_o (by omega)]; exact hI) (by rw [← e9]; exact hQ)
        · refine pw_aload dX1_enter_62 rfl ?_
          refine pw_dup dX1_enter_64 rfl ?_
          refine pw_geti dX1_enter_65 fl_X1_94 rfl (hl_c hh (by omega)) (hl_84c hh (by omega)) (by decide) ?_
          refine pw_iconst (v := 1) dX1_enter_68 (by decide) ?_
          refine pw_iadd dX1_enter_69 ?_
          refine pw_puti dX1_enter_70 fl_X1_94 rfl rfl rfl rfl (hl_c hh (by omega)) (hl_84c hh (by omega)) (by decide) ?_
          refine pw_iinc (v := nI (i + 1)) dX1_enter_73 rfl (by rw [nI_succ]; rfl) (by decide) ?_
          refine pw_goto (tgt := 29) dX1_enter_76 (by decide) ?_
          refine pw_loc (L' := [(0, .ref h), (3, .int (nI (i + 1)))]) rfl ?_
          have e9 : enB I (h + 2 + i) = upI I (h + 2 + i) 4 (I (h + 2 + i) 4 + 1) := by unfold enB; rw [if_pos ⟨h51, h59⟩]
          exact ih (i + 1) _ (by omega) (by rw [← e9, enB_o (by omega)]; exact hI) (by rw [← e9]; exact hQ)
set_option maxRecDepth 100000 in
set_option maxHeartbeats 4000000 in
theorem c_enter {h p c : Nat} (I : pI) (J : pJ) (hh : h = 43 ∨ h = 50) (hp : p < 3) (hc : c ≤ 3) (hI : I h 1 = nI c) : pMet yX1_enter (pws yX1_enter cX1_enter 5 none) { frames := 0, cells := 0, slots := 0, locals := 0 } [.ref h, .int (nI p)] 84 I J pRs (pOv (fun I' J' => I' = enL h c 0 (enA I (h + 2 + p)) ∧ J' = J)) := by
  refine pMet_of (by decide) (Nat.le_of_ble_eq_true rfl) ?_
  refine pw_aload_n dX1_enter_0 rfl ?_
  refine pw_getr dX1_enter_1 fl_X1_11 rfl (hl_h hh) (hl_84 hh) (by decide) (hl_pr hh) ?_
  refine pw_iload_n dX1_enter_4 rfl ?_
  refine pw_aaldC dX1_enter_5 (hl_ar hh) (hl_84' hh) (by decide) (vp_in_nI hp (by decide)) (hl_at hh hp) ?_
  refine pw_astore_n dX1_enter_6 (by decide) ?_
  refine pw_aload_n dX1_enter_7 rfl ?_
  refine pw_iconst (v := 2) dX1_enter_8 (by decide) ?_
  refine pw_puti dX1_enter_9 fl_X1_28 rfl rfl rfl rfl (hl_c hh (by omega)) (hl_84c hh (by omega)) (by decide) ?_
  refine pw_aload_n dX1_enter_12 rfl ?_
  refine pw_dup dX1_enter_13 rfl ?_
  refine pw_geti dX1_enter_14 fl_X1_42 rfl (hl_c hh (by omega)) (hl_84c hh (by omega)) (by decide) ?_
  refine pw_iconst (v := 1) dX1_enter_17 (by decide) ?_
  refine pw_iadd dX1_enter_18 ?_
  refine pw_puti dX1_enter_19 fl_X1_42 rfl rfl rfl rfl (hl_c hh (by omega)) (hl_84c hh (by omega)) (by decide) ?_
  refine pw_aload_n dX1_enter_22 rfl ?_
  refine pw_iconst (v := 0) dX1_enter_23 (by decide) ?_
  refine pw_puti dX1_enter_24 fl_X1_90 rfl rfl rfl rfl (hl_c hh (by omega)) (hl_84c hh (by omega)) (by decide) ?_
  refine pw_iconst (v := 0) dX1_enter_27 (by decide) ?_
  refine pw_istore_n dX1_enter_28 (by decide) ?_
  refine pw_loc (L' := [(0, .ref h), (3, .int (nI 0))]) rfl ?_
  have e9 : upI (upI (upI I (h + 2 + p) 0 2) (h + 2 + p) 1 (upI I (h + 2 + p) 0 2 (h + 2 + p) 1 + 1)) (h + 2 + p) 3 0 = enA I (h + 2 + p) := by rw [upI_k (by decide)]; rfl
  rw [e9]
  exact l_enter hh hc J _ c 0 _ (by omega) (by rw [← hI]; unfold enA; rw [upI_a (by omega), upI_a (by omega), upI_a (by omega)]) ⟨rfl, rfl, rfl, rfl, rfl⟩
