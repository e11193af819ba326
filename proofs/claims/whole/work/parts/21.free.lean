/-- Hall.doFree, as it changes the memory: a free instruction at 'now' of the contender at 'it' -/
def dF (I : pI) (it now : Nat) : pI :=
  if I now 0 = 0 then upI (upI I it 2 (wnib (I it 2) (I now 1) (I now 2))) it 1 (I it 1 + 1)
  else if I now 0 = 1 then upI (upI I it 2 (wnib (I it 2) (I now 1) (nib (I it 2) (I now 1) + I now 2))) it 1 (I it 1 + 1)
  else if I now 0 = 2 then upI (upI I it 2 (wnib (I it 2) (I now 1) (nib (I it 2) (I now 2)))) it 1 (I it 1 + 1)
  else if I now 0 = 3 then upI I it 1 (if nib (I it 2) (I now 1) = nib (I it 2) (I now 2) then I now 3 else I it 1 + 1)
  else if I now 0 = 4 then upI I it 1 (if nib (I it 2) (I now 1) < nib (I it 2) (I now 2) then I now 3 else I it 1 + 1)
  else if I now 0 = 5 then upI I it 1 (I now 3)
  else if I now 0 = 6 then upI (upI (upI I it 3 1) it 4 0) it 1 (I it 1 + 1)
  else upI I it 1 (I it 1 + 1)
theorem i_nlt {x y : Int32} (h : ¬ y ≤ x) : x < y := Int32.not_le.mp h
theorem i_nle {x y : Int32} (h : y ≤ x) : ¬ x < y := Int32.not_lt.mpr h
set_option maxRecDepth 100000 in
set_option maxHeartbeats 4000000 in
theorem c_doFree {it now : Nat} (I : pI) (J : pJ) (hk : (pS it).1 = 0) (ha : it < 84) (hm : (pS now).1 = 2) (hb : now < 84) : pMet yX1_doFree (pws yX1_doFree cX1_doFree 4 none) { frames := 1, cells := 0, slots := 0, locals := 23 } [.ref it, .ref now] 84 I J pRs (pOv (fun I' J' => I' = dF I it now ∧ J' = J)) := by
  refine pMet_of (by decide) (Nat.le_of_ble_eq_true rfl) ?_
  refine pw_aload_n dX1_doFree_0 rfl ?_
  refine pw_geti dX1_doFree_1 fl_X1_70 rfl hk ha (by decide) ?_
  refine pw_istore_n dX1_doFree_4 (by decide) ?_
  refine pw_aload_n dX1_doFree_5 rfl ?_
  refine pw_geti dX1_doFree_6 fl_X1_42 rfl hk ha (by decide) ?_
  refine pw_iconst (v := 1) dX1_doFree_9 (by decide) ?_
  refine pw_iadd dX1_doFree_10 ?_
  refine pw_istore_n dX1_doFree_11 (by decide) ?_
  refine pw_aload_n dX1_doFree_12 rfl ?_
  refine pw_geti dX1_doFree_13 fl_X1_51 rfl hm hb (by decide) ?_
  refine pw_tsw dX1_doFree_16 (fun i16 hi16 s16 => ?_) (fun o16 => ?_)
  · rcases (show i16 = 0 ∨ i16 = 1 ∨ i16 = 2 ∨ i16 = 3 ∨ i16 = 4 ∨ i16 = 5 ∨ i16 = 6 by omega) with rfl | rfl | rfl | rfl | rfl | rfl | rfl
    · replace s16 := s16.trans (show _ = (0 : Int32) by decide)
      refine ⟨_, 60, rfl, by decide, ?_⟩
      refine pw_aload_n dX1_doFree_60 rfl ?_
      refine pw_iload_n dX1_doFree_61 rfl ?_
      refine pw_aload_n dX1_doFree_62 rfl ?_
      refine pw_geti dX1_doFree_63 fl_X1_73 rfl hm hb (by decide) ?_
      refine pw_aload_n dX1_doFree_66 rfl ?_
      refine pw_geti dX1_doFree_67 fl_X1_76 rfl hm hb (by decide) ?_
      refine pw_cNi (y := yX5_withNibble) (cc := cX5_withNibble) (nL := 4) (ret := (some .int)) (rm := { frames := 0, cells := 0, slots := 0, locals := 0 }) dX1_doFree_70 (c_withNibble _ _ _ _ _) w_X1_79 rfl ⟨by decide, by decide⟩ (by decide) (by decide) rfl (Nat.le_of_ble_eq_true rfl) (fun x70 I70 J70 q70 => ?_)
      obtain ⟨rfl, rfl, rfl⟩ := rvq q70
      refine pw_puti dX1_doFree_73 fl_X1_70 rfl rfl rfl rfl hk ha (by decide) ?_
      refine pw_goto (tgt := 213) dX1_doFree_76 (by decide) ?_
      refine pw_aload_n dX1_doFree_213 rfl ?_
      refine pw_iload_n dX1_doFree_214 rfl ?_
      refine pw_puti dX1_doFree_215 fl_X1_42 rfl rfl rfl rfl hk ha (by decide) ?_
      refine pw_vret dX1_doFree_218 rfl (by decide) (by decide) ?_
      refine ⟨rfl, rfl, rfl, ?_, rfl⟩
      first | (simp [dF, s16, h146]; done) | (simp [dF, s16, i_nlt h177]; done) | (simp [dF, s16, i_nle h177]; done) | (simp [dF, s16]; done) | (simp [dF, n0, n1, n2, n3, n4, n5, n6]; done)
    · replace s16 := s16.trans (show _ = (1 : Int32) by decide)
      refine ⟨_, 79, rfl, by decide, ?_⟩
      refine pw_aload_n dX1_doFree_79 rfl ?_
      refine pw_iload_n dX1_doFree_80 rfl ?_
      refine pw_aload_n dX1_doFree_81 rfl ?_
      refine pw_geti dX1_doFree_82 fl_X1_73 rfl hm hb (by decide) ?_
      refine pw_iload_n dX1_doFree_85 rfl ?_
      refine pw_aload_n dX1_doFree_86 rfl ?_
      refine pw_geti dX1_doFree_87 fl_X1_73 rfl hm hb (by decide) ?_
      refine pw_cNi (y := yX5_nibble) (cc := cX5_nibble) (nL := 2) (ret := (some .int)) (rm := { frames := 0, cells := 0, slots := 0, locals := 0 }) dX1_doFree_90 (c_nibble _ _ _ _) w_X1_83 rfl ⟨by decide, by decide⟩ (by decide) (by decide) rfl (Nat.le_of_ble_eq_true rfl) (fun x90 I90 J90 q90 => ?_)
      obtain ⟨rfl, rfl, rfl⟩ := rvq q90
      refine pw_aload_n dX1_doFree_93 rfl ?_
      refine pw_geti dX1_doFree_94 fl_X1_76 rfl hm hb (by decide) ?_
      refine pw_iadd dX1_doFree_97 ?_
      refine pw_cNi (y := yX5_withNibble) (cc := cX5_withNibble) (nL := 4) (ret := (some .int)) (rm := { frames := 0, cells := 0, slots := 0, locals := 0 }) dX1_doFree_98 (c_withNibble _ _ _ _ _) w_X1_79 rfl ⟨by decide, by decide⟩ (by decide) (by decide) rfl (Nat.le_of_ble_eq_true rfl) (fun x98 I98 J98 q98 => ?_)
      obtain ⟨rfl, rfl, rfl⟩ := rvq q98
      refine pw_puti dX1_doFree_101 fl_X1_70 rfl rfl rfl rfl hk ha (by decide) ?_
      refine pw_goto (tgt := 213) dX1_doFree_104 (by decide) ?_
      refine pw_aload_n dX1_doFree_213 rfl ?_
      refine pw_iload_n dX1_doFree_214 rfl ?_
      refine pw_puti dX1_doFree_215 fl_X1_42 rfl rfl rfl rfl hk ha (by decide) ?_
      refine pw_vret dX1_doFree_218 rfl (by decide) (by decide) ?_
      refine ⟨rfl, rfl, rfl, ?_, rfl⟩
      first | (simp [dF, s16, h146]; done) | (simp [dF, s16, i_nlt h177]; done) | (simp [dF, s16, i_nle h177]; done) | (simp [dF, s16]; done) | (simp [dF, n0, n1, n2, n3, n4, n5, n6]; done)
    · replace s16 := s16.trans (show _ = (2 : Int32) by decide)
      refine ⟨_, 107, rfl, by decide, ?_⟩
      refine pw_aload_n dX1_doFree_107 rfl ?_
      refine pw_iload_n dX1_doFree_108 rfl ?_
      refine pw_aload_n dX1_doFree_109 rfl ?_
      refine pw_geti dX1_doFree_110 fl_X1_73 rfl hm hb (by decide) ?_
      refine pw_iload_n dX1_doFree_113 rfl ?_
      refine pw_aload_n dX1_doFree_114 rfl ?_
      refine pw_geti dX1_doFree_115 fl_X1_76 rfl hm hb (by decide) ?_
      refine pw_cNi (y := yX5_nibble) (cc := cX5_nibble) (nL := 2) (ret := (some .int)) (rm := { frames := 0, cells := 0, slots := 0, locals := 0 }) dX1_doFree_118 (c_nibble _ _ _ _) w_X1_83 rfl ⟨by decide, by decide⟩ (by decide) (by decide) rfl (Nat.le_of_ble_eq_true rfl) (fun x118 I118 J118 q118 => ?_)
      obtain ⟨rfl, rfl, rfl⟩ := rvq q118
      refine pw_cNi (y := yX5_withNibble) (cc := cX5_withNibble) (nL := 4) (ret := (some .int)) (rm := { frames := 0, cells := 0, slots := 0, locals := 0 }) dX1_doFree_121 (c_withNibble _ _ _ _ _) w_X1_79 rfl ⟨by decide, by decide⟩ (by decide) (by decide) rfl (Nat.le_of_ble_eq_true rfl) (fun x121 I121 J121 q121 => ?_)
      obtain ⟨rfl, rfl, rfl⟩ := rvq q121
      refine pw_puti dX1_doFree_124 fl_X1_70 rfl rfl rfl rfl hk ha (by decide) ?_
      refine pw_goto (tgt := 213) dX1_doFree_127 (by decide) ?_
      refine pw_aload_n dX1_doFree_213 rfl ?_
      refine pw_iload_n dX1_doFree_214 rfl ?_
      refine pw_puti dX1_doFree_215 fl_X1_42 rfl rfl rfl rfl hk ha (by decide) ?_
      refine pw_vret dX1_doFree_218 rfl (by decide) (by decide) ?_
      refine ⟨rfl, rfl, rfl, ?_, rfl⟩
      first | (simp [dF, s16, h146]; done) | (simp [dF, s16, i_nlt h177]; done) | (simp [dF, s16, i_nle h177]; done) | (simp [dF, s16]; done) | (simp [dF, n0, n1, n2, n3, n4, n5, n6]; done)
    · replace s16 := s16.trans (show _ = (3 : Int32) by decide)
      refine ⟨_, 130, rfl, by decide, ?_⟩
      refine pw_iload_n dX1_doFree_130 rfl ?_
      refine pw_aload_n dX1_doFree_131 rfl ?_
      refine pw_geti dX1_doFree_132 fl_X1_73 rfl hm hb (by decide) ?_
      refine pw_cNi (y := yX5_nibble) (cc := cX5_nibble) (nL := 2) (ret := (some .int)) (rm := { frames := 0, cells := 0, slots := 0, locals := 0 }) dX1_doFree_135 (c_nibble _ _ _ _) w_X1_83 rfl ⟨by decide, by decide⟩ (by decide) (by decide) rfl (Nat.le_of_ble_eq_true rfl) (fun x135 I135 J135 q135 => ?_)
      obtain ⟨rfl, rfl, rfl⟩ := rvq q135
      refine pw_iload_n dX1_doFree_138 rfl ?_
      refine pw_aload_n dX1_doFree_139 rfl ?_
      refine pw_geti dX1_doFree_140 fl_X1_76 rfl hm hb (by decide) ?_
      refine pw_cNi (y := yX5_nibble) (cc := cX5_nibble) (nL := 2) (ret := (some .int)) (rm := { frames := 0, cells := 0, slots := 0, locals := 0 }) dX1_doFree_143 (c_nibble _ _ _ _) w_X1_83 rfl ⟨by decide, by decide⟩ (by decide) (by decide) rfl (Nat.le_of_ble_eq_true rfl) (fun x143 I143 J143 q143 => ?_)
      obtain ⟨rfl, rfl, rfl⟩ := rvq q143
      refine pw_icmp_ne (tgt := 156) dX1_doFree_146 (by decide) (fun h146 => ?_) (fun h146 => ?_)
      · refine pw_iload_n dX1_doFree_156 rfl ?_
        refine pw_istore_n dX1_doFree_157 (by decide) ?_
        refine pw_goto (tgt := 213) dX1_doFree_158 (by decide) ?_
        refine pw_aload_n dX1_doFree_213 rfl ?_
        refine pw_iload_n dX1_doFree_214 rfl ?_
        refine pw_puti dX1_doFree_215 fl_X1_42 rfl rfl rfl rfl hk ha (by decide) ?_
        refine pw_vret dX1_doFree_218 rfl (by decide) (by decide) ?_
        refine ⟨rfl, rfl, rfl, ?_, rfl⟩
        first | (simp [dF, s16, h146]; done) | (simp [dF, s16, i_nlt h177]; done) | (simp [dF, s16, i_nle h177]; done) | (simp [dF, s16]; done) | (simp [dF, n0, n1, n2, n3, n4, n5, n6]; done)
      · refine pw_aload_n dX1_doFree_149 rfl ?_
        refine pw_geti dX1_doFree_150 fl_X1_87 rfl hm hb (by decide) ?_
        refine pw_goto (tgt := 157) dX1_doFree_153 (by decide) ?_
        refine pw_istore_n dX1_doFree_157 (by decide) ?_
        refine pw_goto (tgt := 213) dX1_doFree_158 (by decide) ?_
        refine pw_aload_n dX1_doFree_213 rfl ?_
        refine pw_iload_n dX1_doFree_214 rfl ?_
        refine pw_puti dX1_doFree_215 fl_X1_42 rfl rfl rfl rfl hk ha (by decide) ?_
        refine pw_vret dX1_doFree_218 rfl (by decide) (by decide) ?_
        refine ⟨rfl, rfl, rfl, ?_, rfl⟩
        first | (simp [dF, s16, h146]; done) | (simp [dF, s16, i_nlt h177]; done) | (simp [dF, s16, i_nle h177]; done) | (simp [dF, s16]; done) | (simp [dF, n0, n1, n2, n3, n4, n5, n6]; done)
    · replace s16 := s16.trans (show _ = (4 : Int32) by decide)
      refine ⟨_, 161, rfl, by decide, ?_⟩
      refine pw_iload_n dX1_doFree_161 rfl ?_
      refine pw_aload_n dX1_doFree_162 rfl ?_
      refine pw_geti dX1_doFree_163 fl_X1_73 rfl hm hb (by decide) ?_
      refine pw_cNi (y := yX5_nibble) (cc := cX5_nibble) (nL := 2) (ret := (some .int)) (rm := { frames := 0, cells := 0, slots := 0, locals := 0 }) dX1_doFree_166 (c_nibble _ _ _ _) w_X1_83 rfl ⟨by decide, by decide⟩ (by decide) (by decide) rfl (Nat.le_of_ble_eq_true rfl) (fun x166 I166 J166 q166 => ?_)
      obtain ⟨rfl, rfl, rfl⟩ := rvq q166
      refine pw_iload_n dX1_doFree_169 rfl ?_
      refine pw_aload_n dX1_doFree_170 rfl ?_
      refine pw_geti dX1_doFree_171 fl_X1_76 rfl hm hb (by decide) ?_
      refine pw_cNi (y := yX5_nibble) (cc := cX5_nibble) (nL := 2) (ret := (some .int)) (rm := { frames := 0, cells := 0, slots := 0, locals := 0 }) dX1_doFree_174 (c_nibble _ _ _ _) w_X1_83 rfl ⟨by decide, by decide⟩ (by decide) (by decide) rfl (Nat.le_of_ble_eq_true rfl) (fun x174 I174 J174 q174 => ?_)
      obtain ⟨rfl, rfl, rfl⟩ := rvq q174
      refine pw_icmp_ge (tgt := 187) dX1_doFree_177 (by decide) (fun h177 => ?_) (fun h177 => ?_)
      · refine pw_iload_n dX1_doFree_187 rfl ?_
        refine pw_istore_n dX1_doFree_188 (by decide) ?_
        refine pw_goto (tgt := 213) dX1_doFree_189 (by decide) ?_
        refine pw_aload_n dX1_doFree_213 rfl ?_
        refine pw_iload_n dX1_doFree_214 rfl ?_
        refine pw_puti dX1_doFree_215 fl_X1_42 rfl rfl rfl rfl hk ha (by decide) ?_
        refine pw_vret dX1_doFree_218 rfl (by decide) (by decide) ?_
        refine ⟨rfl, rfl, rfl, ?_, rfl⟩
        first | (simp [dF, s16, h146]; done) | (simp [dF, s16, i_nlt h177]; done) | (simp [dF, s16, i_nle h177]; done) | (simp [dF, s16]; done) | (simp [dF, n0, n1, n2, n3, n4, n5, n6]; done)
      · refine pw_aload_n dX1_doFree_180 rfl ?_
        refine pw_geti dX1_doFree_181 fl_X1_87 rfl hm hb (by decide) ?_
        refine pw_goto (tgt := 188) dX1_doFree_184 (by decide) ?_
        refine pw_istore_n dX1_doFree_188 (by decide) ?_
        refine pw_goto (tgt := 213) dX1_doFree_189 (by decide) ?_
        refine pw_aload_n dX1_doFree_213 rfl ?_
        refine pw_iload_n dX1_doFree_214 rfl ?_
        refine pw_puti dX1_doFree_215 fl_X1_42 rfl rfl rfl rfl hk ha (by decide) ?_
        refine pw_vret dX1_doFree_218 rfl (by decide) (by decide) ?_
        refine ⟨rfl, rfl, rfl, ?_, rfl⟩
        first | (simp [dF, s16, h146]; done) | (simp [dF, s16, i_nlt h177]; done) | (simp [dF, s16, i_nle h177]; done) | (simp [dF, s16]; done) | (simp [dF, n0, n1, n2, n3, n4, n5, n6]; done)
    · replace s16 := s16.trans (show _ = (5 : Int32) by decide)
      refine ⟨_, 192, rfl, by decide, ?_⟩
      refine pw_aload_n dX1_doFree_192 rfl ?_
      refine pw_geti dX1_doFree_193 fl_X1_87 rfl hm hb (by decide) ?_
      refine pw_istore_n dX1_doFree_196 (by decide) ?_
      refine pw_goto (tgt := 213) dX1_doFree_197 (by decide) ?_
      refine pw_aload_n dX1_doFree_213 rfl ?_
      refine pw_iload_n dX1_doFree_214 rfl ?_
      refine pw_puti dX1_doFree_215 fl_X1_42 rfl rfl rfl rfl hk ha (by decide) ?_
      refine pw_vret dX1_doFree_218 rfl (by decide) (by decide) ?_
      refine ⟨rfl, rfl, rfl, ?_, rfl⟩
      first | (simp [dF, s16, h146]; done) | (simp [dF, s16, i_nlt h177]; done) | (simp [dF, s16, i_nle h177]; done) | (simp [dF, s16]; done) | (simp [dF, n0, n1, n2, n3, n4, n5, n6]; done)
    · replace s16 := s16.trans (show _ = (6 : Int32) by decide)
      refine ⟨_, 200, rfl, by decide, ?_⟩
      refine pw_aload_n dX1_doFree_200 rfl ?_
      refine pw_iconst (v := 1) dX1_doFree_201 (by decide) ?_
      refine pw_puti dX1_doFree_202 fl_X1_90 rfl rfl rfl rfl hk ha (by decide) ?_
      refine pw_aload_n dX1_doFree_205 rfl ?_
      refine pw_iconst (v := 0) dX1_doFree_206 (by decide) ?_
      refine pw_puti dX1_doFree_207 fl_X1_94 rfl rfl rfl rfl hk ha (by decide) ?_
      refine pw_goto (tgt := 213) dX1_doFree_210 (by decide) ?_
      refine pw_aload_n dX1_doFree_213 rfl ?_
      refine pw_iload_n dX1_doFree_214 rfl ?_
      refine pw_puti dX1_doFree_215 fl_X1_42 rfl rfl rfl rfl hk ha (by decide) ?_
      refine pw_vret dX1_doFree_218 rfl (by decide) (by decide) ?_
      refine ⟨rfl, rfl, rfl, ?_, rfl⟩
      first | (simp [dF, s16, h146]; done) | (simp [dF, s16, i_nlt h177]; done) | (simp [dF, s16, i_nle h177]; done) | (simp [dF, s16]; done) | (simp [dF, n0, n1, n2, n3, n4, n5, n6]; done)
  · refine ⟨213, by decide, ?_⟩
    have n0 : ¬ I now 0 = 0 := fun e => by rw [e] at o16; revert o16; decide
    have n1 : ¬ I now 0 = 1 := fun e => by rw [e] at o16; revert o16; decide
    have n2 : ¬ I now 0 = 2 := fun e => by rw [e] at o16; revert o16; decide
    have n3 : ¬ I now 0 = 3 := fun e => by rw [e] at o16; revert o16; decide
    have n4 : ¬ I now 0 = 4 := fun e => by rw [e] at o16; revert o16; decide
    have n5 : ¬ I now 0 = 5 := fun e => by rw [e] at o16; revert o16; decide
    have n6 : ¬ I now 0 = 6 := fun e => by rw [e] at o16; revert o16; decide
    refine pw_aload_n dX1_doFree_213 rfl ?_
    refine pw_iload_n dX1_doFree_214 rfl ?_
    refine pw_puti dX1_doFree_215 fl_X1_42 rfl rfl rfl rfl hk ha (by decide) ?_
    refine pw_vret dX1_doFree_218 rfl (by decide) (by decide) ?_
    refine ⟨rfl, rfl, rfl, ?_, rfl⟩
    first | (simp [dF, s16, h146]; done) | (simp [dF, s16, i_nlt h177]; done) | (simp [dF, s16, i_nle h177]; done) | (simp [dF, s16]; done) | (simp [dF, n0, n1, n2, n3, n4, n5, n6]; done)
