theorem RQ_64 {k : Nat} (h : RQ 64 k) : (3 ≤ k ∧ k ≤ 11) ∨ (13 ≤ k ∧ k ≤ 20) ∨ k = 22 := by
  rcases h with ⟨e, -⟩ | ⟨e, -⟩ | ⟨e, -⟩ | ⟨e, -⟩ | ⟨e, -⟩ | ⟨e, -⟩ | ⟨e, -⟩ | ⟨e, -⟩ | ⟨-, e⟩
  · omega
  · omega
  · omega
  · omega
  · omega
  · omega
  · omega
  · omega
  · exact e
theorem RQ_le {a k : Nat} (h : RQ a k) : a ≤ 64 := by
  rcases h with ⟨e, -⟩ | ⟨e, -⟩ | ⟨e, -⟩ | ⟨e, -⟩ | ⟨e, -⟩ | ⟨e, -⟩ | ⟨e, -⟩ | ⟨e, -⟩ | ⟨e, -⟩ <;> omega
theorem kP {P9 : pP} : ∀ k, ((3 ≤ k ∧ k ≤ 11) ∨ (13 ≤ k ∧ k ≤ 20) ∨ k = 22) → (upP (upP (upP (upP (upP (upP (upP (upP (upP (upP (upP (upP (upP (upP (upP (upP (upP (upP P9 64 3 (some 65)) 64 4 (some 66)) 64 5 (some 67)) 64 6 (some 68)) 64 7 (some 69)) 64 8 (some 70)) 64 9 (some 71)) 64 10 (some 72)) 64 11 (some 73)) 64 13 (some 74)) 64 14 (some 75)) 64 15 (some 76)) 64 16 (some 77)) 64 17 (some 78)) 64 18 (some 79)) 64 19 (some 80)) 64 20 (some 81)) 64 22 (some 82)) 64 k = pRs 64 k := by
  intro k hk
  rcases hk with hk | hk | rfl
  · rcases (show k = 3 ∨ k = 4 ∨ k = 5 ∨ k = 6 ∨ k = 7 ∨ k = 8 ∨ k = 9 ∨ k = 10 ∨ k = 11 by omega) with rfl | rfl | rfl | rfl | rfl | rfl | rfl | rfl | rfl
    all_goals (simp [upP]; rfl)
  · rcases (show k = 13 ∨ k = 14 ∨ k = 15 ∨ k = 16 ∨ k = 17 ∨ k = 18 ∨ k = 19 ∨ k = 20 by omega) with rfl | rfl | rfl | rfl | rfl | rfl | rfl | rfl
    all_goals (simp [upP]; rfl)
  · simp [upP]; rfl
theorem kPo {P9 : pP} {a k : Nat} (h : a ≠ 64) : (upP (upP (upP (upP (upP (upP (upP (upP (upP (upP (upP (upP (upP (upP (upP (upP (upP (upP P9 64 3 (some 65)) 64 4 (some 66)) 64 5 (some 67)) 64 6 (some 68)) 64 7 (some 69)) 64 8 (some 70)) 64 9 (some 71)) 64 10 (some 72)) 64 11 (some 73)) 64 13 (some 74)) 64 14 (some 75)) 64 15 (some 76)) 64 16 (some 77)) 64 17 (some 78)) 64 18 (some 79)) 64 19 (some 80)) 64 20 (some 81)) 64 22 (some 82)) a k = P9 a k := by
  have h1 : ∀ (X : pP) (y : Nat) (v : Option Nat), upP X 64 y v a k = X a k := fun X y v => upP_ne (Or.inl h)
  simp only [h1]
theorem kIo {I9 : pI} {a k : Nat} (h : a < 65) : (zI (zI (zI (zI (zI (zI (zI (zI (zI (zI (zI (zI (zI (zI I9 65) 66) 67) 68) 69) 70) 71) 72) 73) 74) 78) 80) 81) 82) a k = I9 a k := by
  have h1 : ∀ (X : pI) (y : Nat), 65 ≤ y → zI X y a k = X a k := fun X y hy => zI_ne (by omega)
  rw [h1 _ _ (by decide), h1 _ _ (by decide), h1 _ _ (by decide), h1 _ _ (by decide), h1 _ _ (by decide), h1 _ _ (by decide), h1 _ _ (by decide), h1 _ _ (by decide), h1 _ _ (by decide), h1 _ _ (by decide), h1 _ _ (by decide), h1 _ _ (by decide), h1 _ _ (by decide), h1 _ _ (by decide)]
theorem kIz {I9 : pI} {a k : Nat} (h : (65 ≤ a ∧ a ≤ 74) ∨ a = 78 ∨ (80 ≤ a ∧ a ≤ 82)) : (zI (zI (zI (zI (zI (zI (zI (zI (zI (zI (zI (zI (zI (zI I9 65) 66) 67) 68) 69) 70) 71) 72) 73) 74) 78) 80) 81) 82) a k = 0 := by
  rcases (show a = 65 ∨ a = 66 ∨ a = 67 ∨ a = 68 ∨ a = 69 ∨ a = 70 ∨ a = 71 ∨ a = 72 ∨ a = 73 ∨ a = 74 ∨ a = 78 ∨ a = 80 ∨ a = 81 ∨ a = 82 by omega) with rfl | rfl | rfl | rfl | rfl | rfl | rfl | rfl | rfl | rfl | rfl | rfl | rfl | rfl <;> simp [zI]
abbrev mz_X6 : pT := (yX6_init.cls, cX6_init, 2, none, { frames := 3, cells := 18, slots := 24405, locals := 65 }, [], some (65, true, fun _ _ _ => True))
set_option maxRecDepth 100000 in
set_option maxHeartbeats 400000 in
theorem l_X6 (J : pJ) (Q : pQ) {kc ks : Nat} (hkc : kc ≤ 18) (hks : ks ≤ 24405) : ∀ (m k : Nat) (I : pI), k + m = 160 → Q (.inl none) 83 (cpL m k I) J pRs → PW mz_X6 Q 174 [(0, .ref 64), (1, .int (nI k))] [] 83 I J pRs kc ks := by
  intro m
  induction m with
  | zero =>
    intro k I hkm hQ
    refine pw_iload_n dX6_init_174 rfl ?_
    refine pw_sipush (v := 160) dX6_init_175 (by decide) ?_
    refine pw_icmp_ge (tgt := 199) dX6_init_178 (by decide) (fun h178 => ?_) (fun h178 => ?_)
    · refine pw_vret dX6_init_199 rfl hkc hks ?_
      exact hQ
    · exact absurd (nI_le (a := 160) (b := k) (by omega) (by omega)) h178
  | succ m ih =>
    intro k I hkm hQ
    refine pw_iload_n dX6_init_174 rfl ?_
    refine pw_sipush (v := 160) dX6_init_175 (by decide) ?_
    refine pw_icmp_ge (tgt := 199) dX6_init_178 (by decide) (fun h178 => ?_) (fun h178 => ?_)
    · exact absurd ((nI_leI (a := 160) (b := k) (by decide) (by omega)).mp h178) (by omega)
    · refine pw_aload_n dX6_init_181 rfl ?_
      refine pw_getr dX6_init_182 fl_X6_16 rfl rfl (by decide) (by decide) rfl ?_
      refine pw_iload_n dX6_init_185 rfl ?_
      refine pw_aload_n dX6_init_186 rfl ?_
      refine pw_getr dX6_init_187 fl_X6_20 rfl rfl (by decide) (by decide) rfl ?_
      refine pw_iload_n dX6_init_190 rfl ?_
      refine pw_iald dX6_init_191 rfl (by decide) (by decide) (vp_in_nI (by omega) (by decide)) ?_
      rw [nI_clamp (show k < 2 ^ 31 by omega)]
      refine pw_iast dX6_init_192 rfl (by decide) (by decide) (vp_in_nI (by omega) (by decide)) ?_
      rw [nI_clamp (show k < 2 ^ 31 by omega)]
      refine pw_iinc (v := nI (k + 1)) dX6_init_193 rfl (by rw [nI_succ]; rfl) (by decide) ?_
      refine pw_goto (tgt := 174) dX6_init_196 (by decide) ?_
      refine pw_loc (L' := [(0, .ref 64), (1, .int (nI (k + 1)))]) rfl ?_
      exact ih (k + 1) _ (by omega) (by rw [cpL] at hQ; exact hQ)
set_option maxRecDepth 100000 in
set_option maxHeartbeats 400000 in
theorem z_X6_init (I : pI) (J : pJ) (P : pP) (hPr : ∀ a k, a < 64 → RQ a k → P a k = pRs a k) : pMetZ yX6_init (pws yX6_init cX6_init 2 none) { frames := 3, cells := 18, slots := 24405, locals := 65 } [.ref 64] 65 I J P (pOc 83 (fun I' J' P' => P' = pRs ∧ ∃ I2 : pI, (∀ a k, a < 64 → I2 a k = I a k) ∧ (∀ k, k ≠ 1 → k ≠ 2 → I2 64 k = I 64 k) ∧ I2 64 1 = 1 ∧ I2 64 2 = 2 ∧ (∀ a k, (65 ≤ a ∧ a ≤ 74) ∨ a = 78 ∨ (80 ≤ a ∧ a ≤ 82) → True → I2 a k = 0) ∧ I' = cpL 160 0 (flI I2 1))) := by
  refine pMetZ_of (i := true) (by decide) (fun _ => rfl) (Nat.le_of_ble_eq_true rfl) ?_
  refine pw_aload_n dX6_init_0 rfl ?_
  refine pw_obj dX6_init_1 ob_X6 (Nat.le_of_ble_eq_true rfl) (Nat.le_of_ble_eq_true rfl) ?_
  refine pw_aload_n dX6_init_4 rfl ?_
  refine pw_iconst (v := 1) dX6_init_5 (by decide) ?_
  refine pw_puti dX6_init_6 fl_X6_7 rfl rfl rfl rfl rfl (by decide) (by decide) ?_
  refine pw_aload_n dX6_init_9 rfl ?_
  refine pw_iconst (v := 2) dX6_init_10 (by decide) ?_
  refine pw_puti dX6_init_11 fl_X6_13 rfl rfl rfl rfl rfl (by decide) (by decide) ?_
  refine pw_aload_n dX6_init_14 rfl ?_
  refine pw_sipush (v := 160) dX6_init_15 (by decide) ?_
  refine pw_newI dX6_init_18 rfl rfl aw_I rfl (by decide +kernel) (by decide +kernel) (Nat.le_of_ble_eq_true rfl) (Nat.le_of_ble_eq_true rfl) (Nat.le_of_ble_eq_true rfl) (Nat.le_of_ble_eq_true rfl) ?_
  refine pw_putr dX6_init_20 rfl fl_X6_16 pf_X6_3 rfl (fun _ => rfl) (fun _ => rfl) rfl (by decide) (by decide) (by decide) ?_
  refine pw_aload_n dX6_init_23 rfl ?_
  refine pw_sipush (v := 160) dX6_init_24 (by decide) ?_
  refine pw_newI dX6_init_27 rfl rfl aw_I rfl (by decide +kernel) (by decide +kernel) (Nat.le_of_ble_eq_true rfl) (Nat.le_of_ble_eq_true rfl) (Nat.le_of_ble_eq_true rfl) (Nat.le_of_ble_eq_true rfl) ?_
  refine pw_putr dX6_init_29 rfl fl_X6_20 pf_X6_4 rfl (fun _ => rfl) (fun _ => rfl) rfl (by decide) (by decide) (by decide) ?_
  refine pw_aload_n dX6_init_32 rfl ?_
  refine pw_bipush (v := 16) dX6_init_33 (by decide) ?_
  refine pw_newI dX6_init_35 rfl rfl aw_I rfl (by decide +kernel) (by decide +kernel) (Nat.le_of_ble_eq_true rfl) (Nat.le_of_ble_eq_true rfl) (Nat.le_of_ble_eq_true rfl) (Nat.le_of_ble_eq_true rfl) ?_
  refine pw_putr dX6_init_37 rfl fl_X6_23 pf_X6_5 rfl (fun _ => rfl) (fun _ => rfl) rfl (by decide) (by decide) (by decide) ?_
  refine pw_aload_n dX6_init_40 rfl ?_
  refine pw_bipush (v := 6) dX6_init_41 (by decide) ?_
  refine pw_newI dX6_init_43 rfl rfl aw_I rfl (by decide +kernel) (by decide +kernel) (Nat.le_of_ble_eq_true rfl) (Nat.le_of_ble_eq_true rfl) (Nat.le_of_ble_eq_true rfl) (Nat.le_of_ble_eq_true rfl) ?_
  refine pw_putr dX6_init_45 rfl fl_X6_26 pf_X6_6 rfl (fun _ => rfl) (fun _ => rfl) rfl (by decide) (by decide) (by decide) ?_
  refine pw_aload_n dX6_init_48 rfl ?_
  refine pw_bipush (v := 6) dX6_init_49 (by decide) ?_
  refine pw_newI dX6_init_51 rfl rfl aw_I rfl (by decide +kernel) (by decide +kernel) (Nat.le_of_ble_eq_true rfl) (Nat.le_of_ble_eq_true rfl) (Nat.le_of_ble_eq_true rfl) (Nat.le_of_ble_eq_true rfl) ?_
  refine pw_putr dX6_init_53 rfl fl_X6_29 pf_X6_7 rfl (fun _ => rfl) (fun _ => rfl) rfl (by decide) (by decide) (by decide) ?_
  refine pw_aload_n dX6_init_56 rfl ?_
  refine pw_bipush (v := 36) dX6_init_57 (by decide) ?_
  refine pw_newI dX6_init_59 rfl rfl aw_I rfl (by decide +kernel) (by decide +kernel) (Nat.le_of_ble_eq_true rfl) (Nat.le_of_ble_eq_true rfl) (Nat.le_of_ble_eq_true rfl) (Nat.le_of_ble_eq_true rfl) ?_
  refine pw_putr dX6_init_61 rfl fl_X6_32 pf_X6_8 rfl (fun _ => rfl) (fun _ => rfl) rfl (by decide) (by decide) (by decide) ?_
  refine pw_aload_n dX6_init_64 rfl ?_
  refine pw_bipush (v := 6) dX6_init_65 (by decide) ?_
  refine pw_newZ dX6_init_67 rfl rfl aw_Z rfl (by decide +kernel) (by decide +kernel) (Nat.le_of_ble_eq_true rfl) (Nat.le_of_ble_eq_true rfl) (Nat.le_of_ble_eq_true rfl) (Nat.le_of_ble_eq_true rfl) ?_
  refine pw_putr dX6_init_69 rfl fl_X6_35 pf_X6_9 rfl (fun _ => rfl) (fun _ => rfl) rfl (by decide) (by decide) (by decide) ?_
  refine pw_aload_n dX6_init_72 rfl ?_
  refine pw_bipush (v := 6) dX6_init_73 (by decide) ?_
  refine pw_newI dX6_init_75 rfl rfl aw_I rfl (by decide +kernel) (by decide +kernel) (Nat.le_of_ble_eq_true rfl) (Nat.le_of_ble_eq_true rfl) (Nat.le_of_ble_eq_true rfl) (Nat.le_of_ble_eq_true rfl) ?_
  refine pw_putr dX6_init_77 rfl fl_X6_39 pf_X6_10 rfl (fun _ => rfl) (fun _ => rfl) rfl (by decide) (by decide) (by decide) ?_
  refine pw_aload_n dX6_init_80 rfl ?_
  refine pw_bipush (v := 6) dX6_init_81 (by decide) ?_
  refine pw_newI dX6_init_83 rfl rfl aw_I rfl (by decide +kernel) (by decide +kernel) (Nat.le_of_ble_eq_true rfl) (Nat.le_of_ble_eq_true rfl) (Nat.le_of_ble_eq_true rfl) (Nat.le_of_ble_eq_true rfl) ?_
  refine pw_putr dX6_init_85 rfl fl_X6_42 pf_X6_11 rfl (fun _ => rfl) (fun _ => rfl) rfl (by decide) (by decide) (by decide) ?_
  refine pw_aload_n dX6_init_88 rfl ?_
  refine pw_sipush (v := 3000) dX6_init_89 (by decide) ?_
  refine pw_newI dX6_init_92 rfl rfl aw_I rfl (by decide +kernel) (by decide +kernel) (Nat.le_of_ble_eq_true rfl) (Nat.le_of_ble_eq_true rfl) (Nat.le_of_ble_eq_true rfl) (Nat.le_of_ble_eq_true rfl) ?_
  refine pw_putr dX6_init_94 rfl fl_X6_45 pf_X6_13 rfl (fun _ => rfl) (fun _ => rfl) rfl (by decide) (by decide) (by decide) ?_
  refine pw_aload_n dX6_init_97 rfl ?_
  refine pw_sipush (v := 3000) dX6_init_98 (by decide) ?_
  refine pw_newL dX6_init_101 rfl rfl aw_L rfl (by decide +kernel) (by decide +kernel) (Nat.le_of_ble_eq_true rfl) (Nat.le_of_ble_eq_true rfl) (Nat.le_of_ble_eq_true rfl) (Nat.le_of_ble_eq_true rfl) ?_
  refine pw_putr dX6_init_103 rfl fl_X6_48 pf_X6_14 rfl (fun _ => rfl) (fun _ => rfl) rfl (by decide) (by decide) (by decide) ?_
  refine pw_aload_n dX6_init_106 rfl ?_
  refine pw_sipush (v := 3000) dX6_init_107 (by decide) ?_
  refine pw_newL dX6_init_110 rfl rfl aw_L rfl (by decide +kernel) (by decide +kernel) (Nat.le_of_ble_eq_true rfl) (Nat.le_of_ble_eq_true rfl) (Nat.le_of_ble_eq_true rfl) (Nat.le_of_ble_eq_true rfl) ?_
  refine pw_putr dX6_init_112 rfl fl_X6_52 pf_X6_15 rfl (fun _ => rfl) (fun _ => rfl) rfl (by decide) (by decide) (by decide) ?_
  refine pw_aload_n dX6_init_115 rfl ?_
  refine pw_sipush (v := 3000) dX6_init_116 (by decide) ?_
  refine pw_newL dX6_init_119 rfl rfl aw_L rfl (by decide +kernel) (by decide +kernel) (Nat.le_of_ble_eq_true rfl) (Nat.le_of_ble_eq_true rfl) (Nat.le_of_ble_eq_true rfl) (Nat.le_of_ble_eq_true rfl) ?_
  refine pw_putr dX6_init_121 rfl fl_X6_55 pf_X6_16 rfl (fun _ => rfl) (fun _ => rfl) rfl (by decide) (by decide) (by decide) ?_
  refine pw_aload_n dX6_init_124 rfl ?_
  refine pw_sipush (v := 3000) dX6_init_125 (by decide) ?_
  refine pw_newI dX6_init_128 rfl rfl aw_I rfl (by decide +kernel) (by decide +kernel) (Nat.le_of_ble_eq_true rfl) (Nat.le_of_ble_eq_true rfl) (Nat.le_of_ble_eq_true rfl) (Nat.le_of_ble_eq_true rfl) ?_
  refine pw_putr dX6_init_130 rfl fl_X6_58 pf_X6_17 rfl (fun _ => rfl) (fun _ => rfl) rfl (by decide) (by decide) (by decide) ?_
  refine pw_aload_n dX6_init_133 rfl ?_
  refine pw_sipush (v := 3000) dX6_init_134 (by decide) ?_
  refine pw_newL dX6_init_137 rfl rfl aw_L rfl (by decide +kernel) (by decide +kernel) (Nat.le_of_ble_eq_true rfl) (Nat.le_of_ble_eq_true rfl) (Nat.le_of_ble_eq_true rfl) (Nat.le_of_ble_eq_true rfl) ?_
  refine pw_putr dX6_init_139 rfl fl_X6_61 pf_X6_18 rfl (fun _ => rfl) (fun _ => rfl) rfl (by decide) (by decide) (by decide) ?_
  refine pw_aload_n dX6_init_142 rfl ?_
  refine pw_sipush (v := 3000) dX6_init_143 (by decide) ?_
  refine pw_newZ dX6_init_146 rfl rfl aw_Z rfl (by decide +kernel) (by decide +kernel) (Nat.le_of_ble_eq_true rfl) (Nat.le_of_ble_eq_true rfl) (Nat.le_of_ble_eq_true rfl) (Nat.le_of_ble_eq_true rfl) ?_
  refine pw_putr dX6_init_148 rfl fl_X6_64 pf_X6_19 rfl (fun _ => rfl) (fun _ => rfl) rfl (by decide) (by decide) (by decide) ?_
  refine pw_aload_n dX6_init_151 rfl ?_
  refine pw_iconst (v := 3) dX6_init_152 (by decide) ?_
  refine pw_newI dX6_init_153 rfl rfl aw_I rfl (by decide +kernel) (by decide +kernel) (Nat.le_of_ble_eq_true rfl) (Nat.le_of_ble_eq_true rfl) (Nat.le_of_ble_eq_true rfl) (Nat.le_of_ble_eq_true rfl) ?_
  refine pw_putr dX6_init_155 rfl fl_X6_67 pf_X6_20 rfl (fun _ => rfl) (fun _ => rfl) rfl (by decide) (by decide) (by decide) ?_
  refine pw_aload_n dX6_init_158 rfl ?_
  refine pw_sipush (v := 3000) dX6_init_159 (by decide) ?_
  refine pw_newI dX6_init_162 rfl rfl aw_I rfl (by decide +kernel) (by decide +kernel) (Nat.le_of_ble_eq_true rfl) (Nat.le_of_ble_eq_true rfl) (Nat.le_of_ble_eq_true rfl) (Nat.le_of_ble_eq_true rfl) ?_
  refine pw_putr dX6_init_164 rfl fl_X6_70 pf_X6_22 rfl (fun _ => rfl) (fun _ => rfl) rfl (by decide) (by decide) (by decide) ?_
  refine pw_P2 (P' := pRs) (by decide) (fun a k ha hR => ?_) ?_
  · by_cases a64 : a = 64
    · subst a64; exact kP k (RQ_64 hR)
    · rw [kPo a64]; exact hPr a k (by have := RQ_le hR; omega) hR
  refine pw_aload_n dX6_init_167 rfl ?_
  refine pw_iconst (v := 1) dX6_init_168 (by decide) ?_
  refine pw_cVv_83 (ci := 6) (y := yX6_fill) (cc := cX6_fill) (nL := 2) (ret := none) (rm := { frames := 2, cells := 0, slots := 0, locals := 44 }) dX6_init_169 (r_fill_83 1 _ _) w_X6_73 rfl (by decide) rfl ⟨by decide, by decide⟩ (by decide) (by decide) rfl (Nat.le_of_ble_eq_true rfl) (fun I169 J169 q169 => ?_)
  obtain ⟨rfl, rfl⟩ := rvv q169
  refine pw_iconst (v := 0) dX6_init_172 (by decide) ?_
  refine pw_istore_n dX6_init_173 (by decide) ?_
  refine pw_loc (L' := [(0, .ref 64), (1, .int (nI 0))]) rfl ?_
  refine l_X6 _ _ (Nat.le_of_ble_eq_true rfl) (Nat.le_of_ble_eq_true rfl) 160 0 _ rfl ⟨rfl, rfl, rfl, _, fun a k ha => ?_, fun k h1 h2 => ?_, ?_, ?_, fun a k ha _ => kIz ha, rfl⟩
  · rw [kIo (by omega), upI_a (by omega), upI_a (by omega)]
  · rw [kIo (by omega), upI_k h2, upI_k h1]
  · rw [kIo (by omega), upI_k (by decide), upI_s]
  · rw [kIo (by omega), upI_s]
