/-! THE JUDGE of the reference: a process tries to move; a state is expanded -/
theorem nb_if0 {p : Prop} [Decidable p] : narrow .boolean (.int (if p then 0 else 1)) = .int (if p then 0 else 1) := by split <;> rfl
set_option maxRecDepth 100000 in
set_option maxHeartbeats 4000000 in
theorem r_tries_z {k : Nat} (I : pI) (J : pJ) (hk : k < 3) (h0 : I 68 (3 + k) = 0) (hl : I 81 k = 0) : pMet yX6_tries (pws yX6_tries cX6_tries 2 (some .boolean)) { frames := 3, cells := 0, slots := 0, locals := 76 } [.ref 64, .int (nI k)] 84 I J pRs (pOi (fun r I' J' => r = 0 ∧ I' = I ∧ J' = J)) := by
  refine pMet_of (by decide) (Nat.le_of_ble_eq_true rfl) ?_
  refine pw_aload_n dX6_tries_0 rfl ?_
  refine pw_getr dX6_tries_1 fl_X6_26 rfl rfl (by decide) (by decide) rfl ?_
  refine pw_iconst (v := 3) dX6_tries_4 (by decide) ?_
  refine pw_iload_n dX6_tries_5 rfl ?_
  refine pw_iadd dX6_tries_6 ?_
  rw [ixA 3 k 3 (by decide)]
  refine pw_iald dX6_tries_7 rfl (by decide) (by decide) (vp_in_nI (by omega) (by decide)) ?_
  rw [nI_clamp (show 3 + k < 2 ^ 31 by omega)]
  refine pw_if_ne (tgt := 32) dX6_tries_8 (by decide) (fun z => absurd h0 z) (fun _ => ?_)
  refine pw_aload_n dX6_tries_11 rfl ?_
  refine pw_getr dX6_tries_12 fl_X6_67 rfl rfl (by decide) (by decide) rfl ?_
  refine pw_iload_n dX6_tries_15 rfl ?_
  refine pw_iald dX6_tries_16 rfl (by decide) (by decide) (vp_in_nI (by omega) (by decide)) ?_
  rw [nI_clamp (show k < 2 ^ 31 by omega)]
  refine pw_if_ne (tgt := 22) dX6_tries_17 (by decide) (fun z => absurd hl z) (fun _ => ?_)
  refine pw_iconst (v := 0) dX6_tries_20 (by decide) ?_
  refine pw_iret dX6_tries_21 rfl rfl (by decide) (by decide) ?_
  exact ⟨_, rfl, rfl, rfl, rfl, rfl, rfl⟩
set_option maxRecDepth 100000 in
set_option maxHeartbeats 4000000 in
theorem r_tries_l {k c : Nat} {C : pI} (I : pI) (J : pJ) (hc : c ≤ 3) (hk : k < c) (hH : HRel C I 50 8 3 c) (h4 : I 68 (3 + k) = 4) : pMet yX6_tries (pws yX6_tries cX6_tries 2 (some .boolean)) { frames := 3, cells := 0, slots := 0, locals := 76 } [.ref 64, .int (nI k)] 84 I J pRs (pOi (fun r I' J' => r = 0 ∧ I' = I ∧ J' = J)) := by
  have hHZ := lf_H (p := k) hH
  have hP := hHZ.1 k (by omega)
  obtain ⟨w, q, -, hq40, -, -, -, hq, -⟩ := id hP
  have hPR := hHZ.2.2.1.PR
  have hRG := hP.RG
  have hm := hHZ.2.2.2.2.1
  refine pMet_of (by decide) (Nat.le_of_ble_eq_true rfl) ?_
  refine pw_aload_n dX6_tries_0 rfl ?_
  refine pw_getr dX6_tries_1 fl_X6_26 rfl rfl (by decide) (by decide) rfl ?_
  refine pw_iconst (v := 3) dX6_tries_4 (by decide) ?_
  refine pw_iload_n dX6_tries_5 rfl ?_
  refine pw_iadd dX6_tries_6 ?_
  rw [ixA 3 k 3 (by decide)]
  refine pw_iald dX6_tries_7 rfl (by decide) (by decide) (vp_in_nI (by omega) (by decide)) ?_
  rw [nI_clamp (show 3 + k < 2 ^ 31 by omega)]
  refine pw_if_ne (tgt := 32) dX6_tries_8 (by decide) (fun _ => ?_) (fun z => absurd z (by rw [h4]; decide))
  refine pw_aload_n dX6_tries_32 rfl ?_
  refine pw_iconst (v := 3) dX6_tries_33 (by decide) ?_
  refine pw_iload_n dX6_tries_34 rfl ?_
  refine pw_iadd dX6_tries_35 ?_
  rw [ixA 3 k 3 (by decide)]
  have eZ : lfR I k = I := by unfold lfR; rw [if_neg (by rw [h4]; decide)]
  rw [eZ] at hPR hRG hm hq
  refine pw_bipush (v := 8) dX6_tries_36 (by decide) ?_
  refine pw_cVi (ci := 6) (y := yX6_move) (cc := cX6_move) (nL := 3) (ret := (some .boolean)) (rm := { frames := 2, cells := 0, slots := 0, locals := 54 }) dX6_tries_38 (r_move (p := 3 + k) (b := 8) _ _ (Or.inr (by omega)) (Or.inr rfl) (by omega) hc hPR ⟨q, hq40, hq⟩ hRG hm) w_X6_147 rfl (by decide) rfl ⟨by decide, by decide⟩ (by decide) (by decide) rfl (Nat.le_of_ble_eq_true rfl) (fun x38 I38 J38 q38 => ?_)
  obtain ⟨rfl, rfl, rfl⟩ := rvq q38
  refine pw_iret dX6_tries_41 rfl nb_if0 (by decide) (by decide) ?_
  exact ⟨_, rfl, rfl, rfl, by rw [if_pos h4], by rw [moI, if_pos h4], rfl⟩
set_option maxRecDepth 100000 in
set_option maxHeartbeats 4000000 in
theorem r_tries_i {k c : Nat} {C : pI} (I : pI) (J : pJ) (hc : c ≤ 3) (hk : k < c) (hH : HRel C I 50 8 3 c) (h0 : I 68 (3 + k) = 0) (hl : ¬ I 81 k = 0) : pMet yX6_tries (pws yX6_tries cX6_tries 2 (some .boolean)) { frames := 3, cells := 0, slots := 0, locals := 76 } [.ref 64, .int (nI k)] 84 I J pRs (pOi (fun r I' J' => r = 1 ∧ I' = moJ I c k ∧ J' = J)) := by
  have hHZ := lf_H (p := k) hH
  have hP := hHZ.1 k (by omega)
  obtain ⟨w, q, -, hq40, -, -, -, hq, -⟩ := id hP
  have hPR := hHZ.2.2.1.PR
  have hRG := hP.RG
  have hm := hHZ.2.2.2.2.1
  refine pMet_of (by decide) (Nat.le_of_ble_eq_true rfl) ?_
  refine pw_aload_n dX6_tries_0 rfl ?_
  refine pw_getr dX6_tries_1 fl_X6_26 rfl rfl (by decide) (by decide) rfl ?_
  refine pw_iconst (v := 3) dX6_tries_4 (by decide) ?_
  refine pw_iload_n dX6_tries_5 rfl ?_
  refine pw_iadd dX6_tries_6 ?_
  rw [ixA 3 k 3 (by decide)]
  refine pw_iald dX6_tries_7 rfl (by decide) (by decide) (vp_in_nI (by omega) (by decide)) ?_
  rw [nI_clamp (show 3 + k < 2 ^ 31 by omega)]
  refine pw_if_ne (tgt := 32) dX6_tries_8 (by decide) (fun z => absurd h0 z) (fun _ => ?_)
  refine pw_aload_n dX6_tries_11 rfl ?_
  refine pw_getr dX6_tries_12 fl_X6_67 rfl rfl (by decide) (by decide) rfl ?_
  refine pw_iload_n dX6_tries_15 rfl ?_
  refine pw_iald dX6_tries_16 rfl (by decide) (by decide) (vp_in_nI (by omega) (by decide)) ?_
  rw [nI_clamp (show k < 2 ^ 31 by omega)]
  refine pw_if_ne (tgt := 22) dX6_tries_17 (by decide) (fun _ => ?_) (fun z => absurd z hl)
  refine pw_aload_n dX6_tries_22 rfl ?_
  refine pw_getr dX6_tries_23 fl_X6_67 rfl rfl (by decide) (by decide) rfl ?_
  refine pw_iload_n dX6_tries_26 rfl ?_
  refine pw_dup2 dX6_tries_27 rfl rfl ?_
  refine pw_iald dX6_tries_28 rfl (by decide) (by decide) (vp_in_nI (by omega) (by decide)) ?_
  rw [nI_clamp (show k < 2 ^ 31 by omega)]
  refine pw_iconst (v := 1) dX6_tries_29 (by decide) ?_
  refine pw_isub dX6_tries_30 ?_
  refine pw_iast dX6_tries_31 rfl (by decide) (by decide) (vp_in_nI (by omega) (by decide)) ?_
  rw [nI_clamp (show k < 2 ^ 31 by omega)]
  have eZ : lfR I k = upI I 81 k (I 81 k - 1) := by unfold lfR; rw [if_pos h0]
  rw [← eZ]
  have e0 : ¬ lfR I k 68 (3 + k) = 4 := by rw [lfR_o (Or.inl (by decide)), h0]; decide
  refine pw_aload_n dX6_tries_32 rfl ?_
  refine pw_iconst (v := 3) dX6_tries_33 (by decide) ?_
  refine pw_iload_n dX6_tries_34 rfl ?_
  refine pw_iadd dX6_tries_35 ?_
  rw [ixA 3 k 3 (by decide)]
  refine pw_bipush (v := 8) dX6_tries_36 (by decide) ?_
  refine pw_cVi (ci := 6) (y := yX6_move) (cc := cX6_move) (nL := 3) (ret := (some .boolean)) (rm := { frames := 2, cells := 0, slots := 0, locals := 54 }) dX6_tries_38 (r_move (p := 3 + k) (b := 8) _ _ (Or.inr (by omega)) (Or.inr rfl) (by omega) hc hPR ⟨q, hq40, hq⟩ hRG hm) w_X6_147 rfl (by decide) rfl ⟨by decide, by decide⟩ (by decide) (by decide) rfl (Nat.le_of_ble_eq_true rfl) (fun x38 I38 J38 q38 => ?_)
  obtain ⟨rfl, rfl, rfl⟩ := rvq q38
  refine pw_iret dX6_tries_41 rfl nb_if0 (by decide) (by decide) ?_
  exact ⟨_, rfl, rfl, rfl, by rw [if_neg e0], rfl, rfl⟩
set_option maxRecDepth 100000 in
set_option maxHeartbeats 4000000 in
theorem r_tries_u {k c : Nat} {C : pI} (I : pI) (J : pJ) (hc : c ≤ 3) (hk : k < c) (hH : HRel C I 50 8 3 c) (h0 : ¬ I 68 (3 + k) = 0) (h4 : ¬ I 68 (3 + k) = 4) : pMet yX6_tries (pws yX6_tries cX6_tries 2 (some .boolean)) { frames := 3, cells := 0, slots := 0, locals := 76 } [.ref 64, .int (nI k)] 84 I J pRs (pOi (fun r I' J' => r = 1 ∧ I' = moJ I c k ∧ J' = J)) := by
  have hHZ := lf_H (p := k) hH
  have hP := hHZ.1 k (by omega)
  obtain ⟨w, q, -, hq40, -, -, -, hq, -⟩ := id hP
  have hPR := hHZ.2.2.1.PR
  have hRG := hP.RG
  have hm := hHZ.2.2.2.2.1
  refine pMet_of (by decide) (Nat.le_of_ble_eq_true rfl) ?_
  refine pw_aload_n dX6_tries_0 rfl ?_
  refine pw_getr dX6_tries_1 fl_X6_26 rfl rfl (by decide) (by decide) rfl ?_
  refine pw_iconst (v := 3) dX6_tries_4 (by decide) ?_
  refine pw_iload_n dX6_tries_5 rfl ?_
  refine pw_iadd dX6_tries_6 ?_
  rw [ixA 3 k 3 (by decide)]
  refine pw_iald dX6_tries_7 rfl (by decide) (by decide) (vp_in_nI (by omega) (by decide)) ?_
  rw [nI_clamp (show 3 + k < 2 ^ 31 by omega)]
  refine pw_if_ne (tgt := 32) dX6_tries_8 (by decide) (fun _ => ?_) (fun z => absurd z h0)
  refine pw_aload_n dX6_tries_32 rfl ?_
  refine pw_iconst (v := 3) dX6_tries_33 (by decide) ?_
  refine pw_iload_n dX6_tries_34 rfl ?_
  refine pw_iadd dX6_tries_35 ?_
  rw [ixA 3 k 3 (by decide)]
  have eZ : lfR I k = I := by unfold lfR; rw [if_neg h0]
  rw [eZ] at hPR hRG hm hq
  refine pw_bipush (v := 8) dX6_tries_36 (by decide) ?_
  refine pw_cVi (ci := 6) (y := yX6_move) (cc := cX6_move) (nL := 3) (ret := (some .boolean)) (rm := { frames := 2, cells := 0, slots := 0, locals := 54 }) dX6_tries_38 (r_move (p := 3 + k) (b := 8) _ _ (Or.inr (by omega)) (Or.inr rfl) (by omega) hc hPR ⟨q, hq40, hq⟩ hRG hm) w_X6_147 rfl (by decide) rfl ⟨by decide, by decide⟩ (by decide) (by decide) rfl (Nat.le_of_ble_eq_true rfl) (fun x38 I38 J38 q38 => ?_)
  obtain ⟨rfl, rfl, rfl⟩ := rvq q38
  refine pw_iret dX6_tries_41 rfl nb_if0 (by decide) (by decide) ?_
  exact ⟨_, rfl, rfl, rfl, by rw [if_neg h4], by rw [moJ, eZ], rfl⟩
theorem r_tries {k c : Nat} {C : pI} (I : pI) (J : pJ) (hc : c ≤ 3) (hk : k < c) (hH : HRel C I 50 8 3 c) : pMet yX6_tries (pws yX6_tries cX6_tries 2 (some .boolean)) { frames := 3, cells := 0, slots := 0, locals := 76 } [.ref 64, .int (nI k)] 84 I J pRs (pOi (fun r I' J' => r = (if skR I k then 0 else 1) ∧ I' = (if skR I k then I else moJ I c k) ∧ J' = J)) := by
  by_cases h4 : I 68 (3 + k) = 4
  · rw [if_pos (Or.inl h4), if_pos (Or.inl h4)]; exact r_tries_l I J hc hk hH h4
  · by_cases h0 : I 68 (3 + k) = 0
    · by_cases hl : I 81 k = 0
      · rw [if_pos (Or.inr ⟨h0, hl⟩), if_pos (Or.inr ⟨h0, hl⟩)]; exact r_tries_z I J (by omega) h0 hl
      · have hn : ¬ skR I k := fun z => z.elim h4 (fun z => hl z.2)
        rw [if_neg hn, if_neg hn]; exact r_tries_i I J hc hk hH h0 hl
    · have hn : ¬ skR I k := fun z => z.elim h4 (fun z => h0 z.1)
      rw [if_neg hn, if_neg hn]; exact r_tries_u I J hc hk hH h0 h4
abbrev m_X6_expand : pT := (yX6_expand.cls, cX6_expand, 4, (some .int), { frames := 4, cells := 0, slots := 0, locals := 97 }, [], none)
set_option maxRecDepth 100000 in
set_option maxHeartbeats 4000000 in
theorem j_expand {s k t : Nat} (I : pI) (J : pJ) (Q : pQ) (hs : s < 3000) (hk : k < 3) (ht : t ≤ 4095) (hK : PW m_X6_expand Q 9 [(0, .ref 64), (1, .int (nI s)), (2, .int (nI (k + 1)))] [] 84 I (ldJ J s t) pRs 0 0) : PW m_X6_expand Q 97 [(0, .ref 64), (1, .int (nI s)), (2, .int (nI k)), (3, .int (nI t))] [] 84 I J pRs 0 0 := by
  refine pw_aload_n dX6_expand_97 rfl ?_
  refine pw_getr dX6_expand_98 fl_X6_61 rfl rfl (by decide) (by decide) rfl ?_
  refine pw_iload_n dX6_expand_101 rfl ?_
  refine pw_aload_n dX6_expand_102 rfl ?_
  refine pw_getr dX6_expand_103 fl_X6_61 rfl rfl (by decide) (by decide) rfl ?_
  refine pw_iload_n dX6_expand_106 rfl ?_
  refine pw_lald dX6_expand_107 rfl (by decide) (by decide) (vp_in_nI (by omega) (by decide)) ?_
  rw [nI_clamp (show s < 2 ^ 31 by omega)]
  refine pw_ldc2 (v := (4096)) dX6_expand_108 k_X6_188 ?_
  refine pw_lmul dX6_expand_111 ?_
  refine pw_iload_n dX6_expand_112 rfl ?_
  refine pw_i2l dX6_expand_113 ?_
  rw [nI_l (by omega)]
  refine pw_ladd dX6_expand_114 ?_
  refine pw_last dX6_expand_115 rfl (by decide) (by decide) (vp_in_nI (by omega) (by decide)) ?_
  rw [nI_clamp (show s < 2 ^ 31 by omega)]
  rw [show upJ J 79 s (J 79 s * 4096 + lN t) = ldJ J s t from rfl]
  refine pw_iinc (v := nI (k + 1)) dX6_expand_116 rfl (by rw [nI_succ]; rfl) (by decide) ?_
  refine pw_goto (tgt := 9) dX6_expand_119 (by decide) ?_
  refine pw_loc (L' := [(0, .ref 64), (1, .int (nI s)), (2, .int (nI (k + 1)))]) rfl ?_
  exact hK
theorem exT_le (Y : pI) (J : pJ) (c s k f : Nat) : f ≤ (exT Y J c s k f).2.1 := by
  unfold exT
  repeat' split
  all_goals first | exact Nat.le_refl _ | exact Nat.le_succ _
set_option maxRecDepth 100000 in
set_option maxHeartbeats 4000000 in
theorem j_expand2 {s k c f m : Nat} (I : pI) (J : pJ) (Q : pQ) (hs : s < f) (hf3 : f ≤ 3000) (hk3 : k < 3) (hc : c ≤ 3) (hf : I 64 12 = nI f) (hI : I 64 2 = nI c) (hQ : Q (.inl (some (.int (rowR c s m (k + 1) (exT I J c s k f)).1))) 84 (rowR c s m (k + 1) (exT I J c s k f)).2.2.1 (rowR c s m (k + 1) (exT I J c s k f)).2.2.2 pRs) (hK : (exT I J c s k f).1 = -1 → Q (.inl (some (.int (rowR c s m (k + 1) (exT I J c s k f)).1))) 84 (rowR c s m (k + 1) (exT I J c s k f)).2.2.1 (rowR c s m (k + 1) (exT I J c s k f)).2.2.2 pRs → PW m_X6_expand Q 9 [(0, .ref 64), (1, .int (nI s)), (2, .int (nI (k + 1)))] [] 84 (exT I J c s k f).2.2.1 (exT I J c s k f).2.2.2 pRs 0 0) : PW m_X6_expand Q 39 [(0, .ref 64), (1, .int (nI s)), (2, .int (nI k)), (3, .int 4095)] [] 84 I J pRs 0 0 := by
  have hle : fdN I J f ≤ 0 + f := fdL_le _ _ _ _ _ _ _ _
  by_cases hn : fdN I J f = f
  · by_cases h3 : f = 3000
    ·
        refine pw_aload_n dX6_expand_39 rfl ?_
        refine pw_cVi (ci := 6) (y := yX6_find) (cc := cX6_find) (nL := 9) (ret := (some .int)) (rm := { frames := 2, cells := 0, slots := 0, locals := 48 }) dX6_expand_40 (r_find_f _ _ (by rw [← h3]; exact hf) (by rw [← h3]; exact hn)) w_X6_180 rfl (by decide) rfl ⟨by decide, by decide⟩ (by decide) (by decide) rfl (Nat.le_of_ble_eq_true rfl) (fun x40 I40 J40 q40 => ?_)
        obtain ⟨rfl, rfl, rfl⟩ := rvq q40
        refine pw_istore_n dX6_expand_43 (by decide) ?_
        refine pw_iload_n dX6_expand_44 rfl ?_
        refine pw_aload_n dX6_expand_45 rfl ?_
        refine pw_geti dX6_expand_46 fl_X6_171 rfl rfl (by decide) (by decide) ?_
        rw [hf, h3]
        refine pw_icmp_ne (tgt := 97) dX6_expand_49 (by decide) (fun z => absurd rfl z) (fun _ => ?_)
        refine pw_aload_n dX6_expand_52 rfl ?_
        refine pw_geti dX6_expand_53 fl_X6_171 rfl rfl (by decide) (by decide) ?_
        refine pw_sipush (v := 3000) dX6_expand_56 (by decide) ?_
        rw [hf, h3]
        refine pw_icmp_ne (tgt := 64) dX6_expand_59 (by decide) (fun z => absurd rfl z) (fun _ => ?_)
        refine pw_iconst (v := 3) dX6_expand_62 (by decide) ?_
        refine pw_iret dX6_expand_63 rfl rfl (by decide) (by decide) ?_
        rw [exT, if_pos hn, if_pos h3, rowR_end (show _ ≠ _ from (by decide : (3 : Int32) ≠ -1))] at hQ
        exact hQ
    ·
        refine pw_aload_n dX6_expand_39 rfl ?_
        refine pw_cVi (ci := 6) (y := yX6_find) (cc := cX6_find) (nL := 9) (ret := (some .int)) (rm := { frames := 2, cells := 0, slots := 0, locals := 48 }) dX6_expand_40 (r_find_n _ _ (by omega) hf hn) w_X6_180 rfl (by decide) rfl ⟨by decide, by decide⟩ (by decide) (by decide) rfl (Nat.le_of_ble_eq_true rfl) (fun x40 I40 J40 q40 => ?_)
        obtain ⟨rfl, rfl, rfl⟩ := rvq q40
        refine pw_istore_n dX6_expand_43 (by decide) ?_
        refine pw_iload_n dX6_expand_44 rfl ?_
        have hf2 : fdK I f 64 12 = nI f := by unfold fdK; rw [upI_a (by decide)]; exact hf
        refine pw_aload_n dX6_expand_45 rfl ?_
        refine pw_geti dX6_expand_46 fl_X6_171 rfl rfl (by decide) (by decide) ?_
        rw [hf2]
        refine pw_icmp_ne (tgt := 97) dX6_expand_49 (by decide) (fun z => absurd rfl z) (fun _ => ?_)
        refine pw_aload_n dX6_expand_52 rfl ?_
        refine pw_geti dX6_expand_53 fl_X6_171 rfl rfl (by decide) (by decide) ?_
        refine pw_sipush (v := 3000) dX6_expand_56 (by decide) ?_
        rw [hf2]
        refine pw_icmp_ne (tgt := 64) dX6_expand_59 (by decide) (fun _ => ?_) (fun z => absurd ((nI_eq (a := f) (b := 3000) (by omega) (by decide)).mp z) h3)
        refine pw_aload_n dX6_expand_64 rfl ?_
        refine pw_getr dX6_expand_65 fl_X6_58 rfl rfl (by decide) (by decide) rfl ?_
        refine pw_aload_n dX6_expand_68 rfl ?_
        refine pw_geti dX6_expand_69 fl_X6_171 rfl rfl (by decide) (by decide) ?_
        rw [hf2]
        refine pw_iconst (v := 4) dX6_expand_72 (by decide) ?_
        refine pw_iload_n dX6_expand_73 rfl ?_
        refine pw_imul dX6_expand_74 ?_
        refine pw_iload_n dX6_expand_75 rfl ?_
        refine pw_iadd dX6_expand_76 ?_
        rw [show (4 : Int32) * nI s + nI k = nI (4 * s + k) by rw [show (4 : Int32) = nI 4 by decide, pk_mul, nI_add]]
        refine pw_iast dX6_expand_77 rfl (by decide) (by decide) (vp_in_nI (by omega) (by decide)) ?_
        rw [nI_clamp (show f < 2 ^ 31 by omega)]
        refine pw_aload_n dX6_expand_78 rfl ?_
        refine pw_dup dX6_expand_79 rfl ?_
        refine pw_geti dX6_expand_80 fl_X6_171 rfl rfl (by decide) (by decide) ?_
        rw [show upI (fdK I f) 78 f (nI (4 * s + k)) 64 12 = nI f by rw [upI_a (by decide)]; exact hf2]
        refine pw_iconst (v := 1) dX6_expand_83 (by decide) ?_
        refine pw_iadd dX6_expand_84 ?_
        rw [nI_1]
        refine pw_puti dX6_expand_85 fl_X6_171 rfl rfl rfl rfl rfl (by decide) (by decide) ?_
        refine pw_aload_n dX6_expand_88 rfl ?_
        refine pw_cVi (ci := 6) (y := yX6_hasTwoInside) (cc := cX6_hasTwoInside) (nL := 3) (ret := (some .boolean)) (rm := { frames := 0, cells := 0, slots := 0, locals := 0 }) dX6_expand_89 (r_twoIn _ _ hc (show nwK I s k f 64 2 = nI c by rw [nwK_o (by decide) (by decide) (by omega)]; exact hI)) w_X6_184 rfl (by decide) rfl ⟨by decide, by decide⟩ (by decide) (by decide) rfl (Nat.le_of_ble_eq_true rfl) (fun x89 I89 J89 q89 => ?_)
        obtain ⟨rfl, rfl, rfl⟩ := rvq q89
        refine pw_if_eq (tgt := 97) dX6_expand_92 (by decide) (fun h92 => ?_) (fun h92 => ?_)
        · have h1 : ¬ 1 < hwL (nwK I s k f) c 0 0 := fun z => absurd h92 (by rw [if_pos (show 1 < hwL (upI (upI (fdK I f) 78 f (nI (4 * s + k))) 64 12 (nI (f + 1))) c 0 0 from z)]; decide)
          rw [exT, if_pos hn, if_neg h3, if_neg h1] at hQ hK
          refine pw_loc (L' := [(0, .ref 64), (1, .int (nI s)), (2, .int (nI k)), (3, .int (nI f))]) rfl ?_
          exact j_expand _ _ Q (by omega) hk3 (by omega) (hK rfl hQ)
        refine pw_iconst (v := 1) dX6_expand_95 (by decide) ?_
        refine pw_iret dX6_expand_96 rfl rfl (by decide) (by decide) ?_
        have h1 : 1 < hwL (nwK I s k f) c 0 0 := Classical.byContradiction (fun z => h92 (if_neg z))
        rw [exT, if_pos hn, if_neg h3, if_pos h1, rowR_end (show _ ≠ _ from (by decide : (1 : Int32) ≠ -1))] at hQ
        exact hQ
  ·
    have hn : fdN I J f < f := by omega
    refine pw_aload_n dX6_expand_39 rfl ?_
    refine pw_cVi (ci := 6) (y := yX6_find) (cc := cX6_find) (nL := 9) (ret := (some .int)) (rm := { frames := 2, cells := 0, slots := 0, locals := 48 }) dX6_expand_40 (r_find_o _ _ hf3 hf hn) w_X6_180 rfl (by decide) rfl ⟨by decide, by decide⟩ (by decide) (by decide) rfl (Nat.le_of_ble_eq_true rfl) (fun x40 I40 J40 q40 => ?_)
    obtain ⟨rfl, rfl, rfl⟩ := rvq q40
    refine pw_istore_n dX6_expand_43 (by decide) ?_
    refine pw_iload_n dX6_expand_44 rfl ?_
    refine pw_aload_n dX6_expand_45 rfl ?_
    refine pw_geti dX6_expand_46 fl_X6_171 rfl rfl (by decide) (by decide) ?_
    rw [hf]
    refine pw_icmp_ne (tgt := 97) dX6_expand_49 (by decide) (fun _ => ?_) (fun z => absurd ((nI_eq (by omega) (by omega)).mp z) (by omega))
    refine pw_loc (L' := [(0, .ref 64), (1, .int (nI s)), (2, .int (nI k)), (3, .int (nI (fdN I J f)))]) rfl ?_
    rw [exT, if_neg (by omega)] at hQ hK
    exact j_expand _ _ Q (by omega) hk3 (by omega) (hK rfl hQ)
set_option maxRecDepth 100000 in
set_option maxHeartbeats 4000000 in
theorem l_expand {s c : Nat} (hc : c ≤ 3) (Q : pQ) : ∀ (m k f : Nat) (I : pI) (J : pJ) (C : pI) (JC : pJ) (to : Nat → Option Nat), k + m = 3 → s < f → JRel to C JC I J c f s k → Q (.inl (some (.int (rowR c s m k (-1, f, I, J)).1))) 84 (rowR c s m k (-1, f, I, J)).2.2.1 (rowR c s m k (-1, f, I, J)).2.2.2 pRs → PW m_X6_expand Q 9 [(0, .ref 64), (1, .int (nI s)), (2, .int (nI k))] [] 84 I J pRs 0 0 := by
  intro m
  induction m with
  | zero =>
    intro k f I J C JC to hkm hs h hQ
    refine pw_iload_n dX6_expand_9 rfl ?_
    refine pw_iconst (v := 3) dX6_expand_10 (by decide) ?_
    refine pw_icmp_ge (tgt := 122) dX6_expand_11 (by decide) (fun h11 => ?_) (fun h11 => ?_)
    · refine pw_iconst (v := (-1)) dX6_expand_122 (by decide) ?_
      refine pw_iret dX6_expand_123 rfl rfl (by decide) (by decide) ?_
      rw [rowR] at hQ
      exact hQ
    · exact absurd (nI_le (a := 3) (b := k) (by omega) (by omega)) h11
  | succ m ih =>
    intro k f I J C JC to hkm hs h hQ
    have hf3 := h.1.2.2.1.1
    have hk3 : k < 3 := by omega
    rw [rowR, if_pos rfl] at hQ
    have hnx : (exS I J c s k f).1 = -1 → ∃ (C' : pI) (JC' : pJ) (to' : Nat → Option Nat), JRel to' C' JC' (exS I J c s k f).2.2.1 (exS I J c s k f).2.2.2 c (exS I J c s k f).2.1 s (k + 1) := by
      intro z
      by_cases hkc : k < c
      · obtain ⟨-, to', e, hS⟩ := sim_pair hc hkc hs h
        rcases hS with ⟨-, -, hJ⟩ | ⟨hx, -⟩
        · rw [e] at hJ; exact ⟨_, _, to', hJ⟩
        · rcases hx with ⟨-, hx⟩ | ⟨-, hx⟩ <;> (rw [z] at hx; exact absurd hx (by decide))
      · obtain ⟨e, hS⟩ := sim_none hc (by omega) hk3 hs h
        rcases hS with ⟨-, -, hJ⟩ | ⟨hx, -⟩
        · rw [← e]; exact ⟨_, _, _, hJ⟩
        · rcases hx with ⟨hx, -⟩ | ⟨hx, -⟩
          · exact absurd hx (show ¬ (0 : Int32) = 1 by decide)
          · exact absurd hx (show ¬ (0 : Int32) = 3 by decide)
    replace hQ : Q (.inl (some (.int (rowR c s m (k + 1) (exS I J c s k f)).1))) 84 (rowR c s m (k + 1) (exS I J c s k f)).2.2.1 (rowR c s m (k + 1) (exS I J c s k f)).2.2.2 pRs := hQ
    refine pw_iload_n dX6_expand_9 rfl ?_
    refine pw_iconst (v := 3) dX6_expand_10 (by decide) ?_
    refine pw_icmp_ge (tgt := 122) dX6_expand_11 (by decide) (fun h11 => ?_) (fun h11 => ?_)
    · exact absurd ((nI_leI (a := 3) (b := k) (by omega) (by omega)).mp h11) (by omega)
    · refine pw_aload_n dX6_expand_14 rfl ?_
      refine pw_iload_n dX6_expand_15 rfl ?_
      refine pw_cVv (ci := 6) (y := yX6_open) (cc := cX6_open) (nL := 3) (ret := none) (rm := { frames := 1, cells := 0, slots := 0, locals := 26 }) dX6_expand_16 (r_open _ _ (by omega)) w_X6_174 rfl (by decide) rfl ⟨by decide, by decide⟩ (by decide) (by decide) rfl (Nat.le_of_ble_eq_true rfl) (fun I16 J16 q16 => ?_)
      obtain ⟨rfl, rfl⟩ := rvv q16
      refine pw_sipush (v := 4095) dX6_expand_19 (by decide) ?_
      refine pw_istore_n dX6_expand_22 (by decide) ?_
      refine pw_iload_n dX6_expand_23 rfl ?_
      refine pw_aload_n dX6_expand_24 rfl ?_
      refine pw_geti dX6_expand_25 fl_X6_13 rfl rfl (by decide) (by decide) ?_
      rw [show opI I J s 64 2 = nI c by rw [opI_o (by omega) (by omega) (by omega) (by omega) (by omega)]; exact h.1.2.1.2]
      refine pw_icmp_ge (tgt := 97) dX6_expand_28 (by decide) (fun h28 => ?_) (fun h28 => ?_)
      · refine pw_loc (L' := [(0, .ref 64), (1, .int (nI s)), (2, .int (nI k)), (3, .int (nI (4095)))]) rfl ?_
        have e9 : exS I J c s k f = (-1, f, opI I J s, ldJ J s 4095) := by
          unfold exS
          rw [if_neg (fun z => absurd ((nI_leI (a := c) (b := k) (by omega) (by omega)).mp h28) (by omega))]
        rw [e9] at hQ hnx
        refine j_expand _ _ Q (by omega) (by omega) (by omega) ?_
        obtain ⟨C', JC', to', hJ'⟩ := hnx rfl
        exact ih (k + 1) _ _ _ C' JC' to' (by omega) (by first | exact hs | exact Nat.lt_succ_of_lt hs) hJ' hQ
      · have hkc : k < c := Nat.lt_of_not_le (fun z => h28 (nI_le z (by omega)))
        obtain ⟨hQ0, hH⟩ := open_rel hc h.1 h.2.1 hs
        refine pw_aload_n dX6_expand_31 rfl ?_
        refine pw_iload_n dX6_expand_32 rfl ?_
        refine pw_cVi (ci := 6) (y := yX6_tries) (cc := cX6_tries) (nL := 2) (ret := (some .boolean)) (rm := { frames := 3, cells := 0, slots := 0, locals := 76 }) dX6_expand_33 (r_tries _ _ hc hkc hH) w_X6_177 rfl (by decide) rfl ⟨by decide, by decide⟩ (by decide) (by decide) rfl (Nat.le_of_ble_eq_true rfl) (fun x33 I33 J33 q33 => ?_)
        obtain ⟨rfl, rfl, rfl⟩ := rvq q33
        refine pw_if_eq (tgt := 97) dX6_expand_36 (by decide) (fun h36 => ?_) (fun h36 => ?_)
        · have hsk : skR (opI I J s) k := Classical.byContradiction (fun z => absurd h36 (by rw [if_neg z]; decide))
          rw [if_pos hsk]
          refine pw_loc (L' := [(0, .ref 64), (1, .int (nI s)), (2, .int (nI k)), (3, .int (nI (4095)))]) rfl ?_
          have e9 : exS I J c s k f = (-1, f, opI I J s, ldJ J s 4095) := by
            unfold exS
            rw [if_neg (fun z => z.2 hsk)]
          rw [e9] at hQ hnx
          refine j_expand _ _ Q (by omega) (by omega) (by omega) ?_
          obtain ⟨C', JC', to', hJ'⟩ := hnx rfl
          exact ih (k + 1) _ _ _ C' JC' to' (by omega) (by first | exact hs | exact Nat.lt_succ_of_lt hs) hJ' hQ
        · have hsk : ¬ skR (opI I J s) k := fun z => h36 (by rw [if_pos z])
          rw [if_neg hsk]
          have h1 := h.opened hc hs
          have hskC : ¬ skC (rsI C JC c s) k := fun z => hsk ((sk_iff hQ0 hc hkc).mp z)
          have h2 := h1.moved hc hkc hQ0 hH hskC
          have hfY := h2.1.2.2.1.2.2
          have hcY := h2.1.2.1.2
          have e8 : exS I J c s k f = exT (moJ (opI I J s) c k) J c s k f := by unfold exS; rw [if_pos ⟨hkc, hsk⟩]
          rw [e8] at hQ hnx
          refine pw_loc (L' := [(0, .ref 64), (1, .int (nI s)), (2, .int (nI k)), (3, .int 4095)]) rfl ?_
          exact j_expand2 _ J Q hs hf3 hk3 hc hfY hcY hQ (fun z hQ9 => by
            obtain ⟨C', JC', to', hJ'⟩ := hnx z
            exact ih (k + 1) _ _ _ C' JC' to' (by omega) (Nat.lt_of_lt_of_le hs (exT_le _ _ _ _ _ _)) hJ' (by rw [← z]; exact hQ9))
set_option maxRecDepth 100000 in
set_option maxHeartbeats 4000000 in
theorem r_expand {s c f : Nat} {C : pI} {JC : pJ} {to : Nat → Option Nat} (I : pI) (J : pJ) (hc : c ≤ 3) (hs : s < f) (hf3 : f ≤ 3000) (h : JRow to C JC I J c f s) : pMet yX6_expand (pws yX6_expand cX6_expand 4 (some .int)) { frames := 4, cells := 0, slots := 0, locals := 97 } [.ref 64, .int (nI s)] 84 I J pRs (pOi (fun r I' J' => r = (exRow (-1, f, I, J) c s).1 ∧ I' = (exRow (-1, f, I, J) c s).2.2.1 ∧ J' = (exRow (-1, f, I, J) c s).2.2.2)) := by
  refine pMet_of (by decide) (Nat.le_of_ble_eq_true rfl) ?_
  refine pw_aload_n dX6_expand_0 rfl ?_
  refine pw_getr dX6_expand_1 fl_X6_61 rfl rfl (by decide) (by decide) rfl ?_
  refine pw_iload_n dX6_expand_4 rfl ?_
  refine pw_lconst (v := 0) dX6_expand_5 (by decide) ?_
  refine pw_last dX6_expand_6 rfl (by decide) (by decide) (vp_in_nI (by omega) (by decide)) ?_
  rw [nI_clamp (show s < 2 ^ 31 by omega)]
  refine pw_iconst (v := 0) dX6_expand_7 (by decide) ?_
  refine pw_istore_n dX6_expand_8 (by decide) ?_
  refine pw_loc (L' := [(0, .ref 64), (1, .int (nI s)), (2, .int (nI 0))]) rfl ?_
  exact l_expand hc _ 3 0 f _ _ C JC to rfl hs (h.begin hc) ⟨_, rfl, rfl, rfl, rfl, rfl, rfl⟩
