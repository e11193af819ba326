/-! THE JUDGE of the class: a move followed, all moves -/
theorem JS.SV {I : pI} {J : pJ} {c f : Nat} (h : JS I J c f) (hf : f ≤ 3000) : SV I := fun t ht => by
  rcases h.1 t ht with z | ⟨s, hs, e⟩
  · exact Or.inl z
  · exact Or.inr ⟨s, by omega, e⟩
abbrev m_X3_follow : pT := (yX3_follow.cls, cX3_follow, 7, (some .int), { frames := 4, cells := 0, slots := 0, locals := 98 }, [], none)
theorem iwL_le (I : pI) : ∀ (m p x : Nat), iwL I m p x ≤ x + m := by
  intro m
  induction m with
  | zero => intro p x; exact Nat.le_refl _
  | succ m ih => intro p x; rw [iwL]; have := ih (p + 1) (if I (52 + p) 0 = 2 then x + 1 else x); split at this <;> rename_i h <;> simp only [h, if_true, if_false] <;> omega
set_option maxRecDepth 100000 in
set_option maxHeartbeats 4000000 in
theorem j_follow {s p c f : Nat} (Z : pI) (J : pJ) (Q : pQ) (hs : s < 3000) (hp : p < 3) (hc : c ≤ 3) (hf4 : f ≤ 3000) (hPV : PV Z) (hpl : ∃ q, q ≤ 40 ∧ Z (50 + 2 + p) 1 = nI q) (hI : Z 50 1 = nI c) (hI2 : mvA Z 50 p c 50 1 = nI c) (hSV : SV (mvA Z 50 p c)) (hf : mvA Z 50 p c 48 2 = nI f) (hQ : Q (.inl (some (.int (fwT (mvA Z 50 p c) J c s p f).1))) 84 (fwT (mvA Z 50 p c) J c s p f).2.2.1 (fwT (mvA Z 50 p c) J c s p f).2.2.2 pRs) : PW m_X3_follow Q 56 [(0, .ref 48), (1, .int (nI s)), (2, .int (nI p)), (3, .ref 1)] [] 84 Z J pRs 0 0 := by
  have iw3 := iwL_le (nwI (mvA Z 50 p c) J c s p f) c 0 0
  refine pw_aload_n dX3_follow_56 rfl ?_
  refine pw_getr dX3_follow_57 fl_X3_18 rfl rfl (by decide) (by decide) rfl ?_
  refine pw_iload_n dX3_follow_60 rfl ?_
  refine pw_aload_n dX3_follow_61 rfl ?_
  refine pw_cVv (ci := 1) (y := yX1_makeMove) (cc := cX1_makeMove) (nL := 4) (ret := none) (rm := { frames := 3, cells := 0, slots := 0, locals := 75 }) dX3_follow_62 (c_makeMove _ _ (Or.inr rfl) hp hc hPV hpl hI) w_X3_102 rfl (by decide) rfl ⟨by decide, by decide⟩ (by decide) (by decide) rfl (Nat.le_of_ble_eq_true rfl) (fun I62 J62 q62 => ?_)
  obtain ⟨rfl, rfl⟩ := rvv q62
  have hsl : slN (mvA Z 50 p c) J c < 8192 := slN_lt
  refine pw_iconst (v := 3) dX3_follow_65 (by decide) ?_
  refine pw_iload_n dX3_follow_66 rfl ?_
  refine pw_imul dX3_follow_67 ?_
  refine pw_iload_n dX3_follow_68 rfl ?_
  refine pw_iadd dX3_follow_69 ?_
  rw [ix3]
  refine pw_istore dX3_follow_70 (by decide) ?_
  refine pw_aload_n dX3_follow_72 rfl ?_
  refine pw_cVi (ci := 3) (y := yX3_slotOfHall) (cc := cX3_slotOfHall) (nL := 5) (ret := (some .int)) (rm := { frames := 3, cells := 0, slots := 0, locals := 64 }) dX3_follow_73 (c_slotOfHall _ _ hc hI2 hSV) w_X3_83 rfl (by decide) rfl ⟨by decide, by decide⟩ (by decide) (by decide) rfl (Nat.le_of_ble_eq_true rfl) (fun x73 I73 J73 q73 => ?_)
  obtain ⟨rfl, rfl, rfl⟩ := rvq q73
  refine pw_istore dX3_follow_76 (by decide) ?_
  refine pw_aload_n dX3_follow_78 rfl ?_
  refine pw_getr dX3_follow_79 fl_X3_32 rfl rfl (by decide) (by decide) rfl ?_
  refine pw_iload dX3_follow_82 rfl ?_
  refine pw_iald dX3_follow_84 rfl (by decide) (by decide) (vp_in_nI (by omega) (by decide)) ?_
  rw [nI_clamp (show slN (mvA Z 50 p c) J c < 2 ^ 31 by omega)]
  refine pw_iconst (v := (-1)) dX3_follow_85 (by decide) ?_
  refine pw_icmp_eq (tgt := 104) dX3_follow_86 (by decide) (fun h86 => ?_) (fun h86 => ?_)
  · refine pw_aload_n dX3_follow_104 rfl ?_
    refine pw_geti dX3_follow_105 fl_X3_55 rfl rfl (by decide) (by decide) ?_
    rw [hf]
    refine pw_sipush (v := 3000) dX3_follow_108 (by decide) ?_
    refine pw_icmp_ne (tgt := 116) dX3_follow_111 (by decide) (fun h111 => ?_) (fun h111 => ?_)
    · have hf3 : f ≠ 3000 := fun z => h111 (by rw [z]; rfl)
      refine pw_aload_n dX3_follow_116 rfl ?_
      refine pw_iload dX3_follow_117 rfl ?_
      refine pw_iload dX3_follow_119 rfl ?_
      refine pw_cVv (ci := 3) (y := yX3_addState) (cc := cX3_addState) (nL := 5) (ret := none) (rm := { frames := 2, cells := 0, slots := 0, locals := 41 }) dX3_follow_121 (c_addState (m := 3 * s + p) _ _ (by omega) hsl (by omega) hc hf hI2) w_X3_87 rfl (by decide) rfl ⟨by decide, by decide⟩ (by decide) (by decide) rfl (Nat.le_of_ble_eq_true rfl) (fun I121 J121 q121 => ?_)
      obtain ⟨rfl, rfl⟩ := rvv q121
      refine pw_aload_n dX3_follow_124 rfl ?_
      refine pw_cVi (ci := 3) (y := yX3_insideNow) (cc := cX3_insideNow) (nL := 3) (ret := (some .int)) (rm := { frames := 0, cells := 0, slots := 0, locals := 0 }) dX3_follow_125 (c_insideNow _ _ hc (show nwI (mvA Z 50 p c) J c s p f 50 1 = nI c by rw [nwI_o (by omega)]; exact hI2)) w_X3_109 rfl (by decide) rfl ⟨by decide, by decide⟩ (by decide) (by decide) rfl (Nat.le_of_ble_eq_true rfl) (fun x125 I125 J125 q125 => ?_)
      obtain ⟨rfl, rfl, rfl⟩ := rvq q125
      refine pw_iconst (v := 2) dX3_follow_128 (by decide) ?_
      refine pw_icmp_lt (tgt := 136) dX3_follow_129 (by decide) (fun h129 => ?_) (fun h129 => ?_)
      · refine pw_iconst (v := 0) dX3_follow_136 (by decide) ?_
        refine pw_iret dX3_follow_137 rfl rfl (by decide) (by decide) ?_
        rw [fwT, if_pos h86, if_neg hf3] at hQ
        have z9 : nI (iwL (nwI (mvA Z 50 p c) J c s p f) c 0 0) < nI 2 := h129
        rw [if_neg (fun z => absurd ((nI_ltI (by omega) (by decide)).mp z9) (by omega))] at hQ
        exact hQ
      · refine pw_iconst (v := 1) dX3_follow_132 (by decide) ?_
        refine pw_goto (tgt := 137) dX3_follow_133 (by decide) ?_
        refine pw_iret dX3_follow_137 rfl rfl (by decide) (by decide) ?_
        rw [fwT, if_pos h86, if_neg hf3] at hQ
        have z9 : ¬ nI (iwL (nwI (mvA Z 50 p c) J c s p f) c 0 0) < nI 2 := h129
        rw [if_pos (Nat.le_of_not_lt (fun z => z9 (nI_lt z (by decide))))] at hQ
        exact hQ
    · refine pw_iconst (v := 3) dX3_follow_114 (by decide) ?_
      refine pw_iret dX3_follow_115 rfl rfl (by decide) (by decide) ?_
      have hf3 : f = 3000 := (nI_eq (a := f) (b := 3000) (by omega) (by decide)).mp h111
      rw [fwT, if_pos h86, if_pos hf3] at hQ
      exact hQ
  · refine pw_aload_n dX3_follow_89 rfl ?_
    refine pw_iload dX3_follow_90 rfl ?_
    refine pw_aload_n dX3_follow_92 rfl ?_
    refine pw_getr dX3_follow_93 fl_X3_32 rfl rfl (by decide) (by decide) rfl ?_
    refine pw_iload dX3_follow_96 rfl ?_
    refine pw_iald dX3_follow_98 rfl (by decide) (by decide) (vp_in_nI (by omega) (by decide)) ?_
    rw [nI_clamp (show slN (mvA Z 50 p c) J c < 2 ^ 31 by omega)]
    obtain ⟨x, hx, ex⟩ : ∃ x, x < 3000 ∧ mvA Z 50 p c 58 (slN (mvA Z 50 p c) J c) = nI x := by
      rcases hSV _ hsl with z | z
      · exact absurd z h86
      · exact z
    rw [ex]
    refine pw_cVv (ci := 3) (y := yX3_noteMove) (cc := cX3_noteMove) (nL := 3) (ret := none) (rm := { frames := 0, cells := 0, slots := 0, locals := 0 }) dX3_follow_99 (c_noteMove (m := 3 * s + p) (t := x) _ _ (by omega) hx) w_X3_106 rfl (by decide) rfl ⟨by decide, by decide⟩ (by decide) (by decide) rfl (Nat.le_of_ble_eq_true rfl) (fun I99 J99 q99 => ?_)
    obtain ⟨rfl, rfl⟩ := rvv q99
    refine pw_iconst (v := 0) dX3_follow_102 (by decide) ?_
    refine pw_iret dX3_follow_103 rfl rfl (by decide) (by decide) ?_
    rw [fwT, if_neg h86, ex, nI_clamp (by omega)] at hQ
    exact hQ
set_option maxRecDepth 100000 in
set_option maxHeartbeats 4000000 in
theorem c_follow {s p c f : Nat} {to : Nat → Option Nat} {K : pI} {JK : pJ} (I : pI) (J : pJ) (hc : c ≤ 3) (hp : p < c) (hs : s < f) (h : JRel to I J K JK c f s p) : pMet yX3_follow (pws yX3_follow cX3_follow 7 (some .int)) { frames := 4, cells := 0, slots := 0, locals := 98 } [.ref 48, .int (nI s), .int (nI p), .ref 1] 84 I J pRs (pOi (fun r I' J' => r = (fwS I J c s p f).1 ∧ I' = (fwS I J c s p f).2.2.1 ∧ J' = (fwS I J c s p f).2.2.2)) := by
  obtain ⟨hQ0, hH0⟩ := open_rel hc h.1 h.2.1 hs
  have h1 := h.opened hc hs
  have hI := h.1.2.1.1
  have hf3 := h.1.2.2.1.1
  have hp3 : p < 3 := by omega
  have hHZ := lf_H (p := p) hH0
  have hPVZ := hHZ.2.2.1.PV
  have hIZ := hHZ.2.2.2.1
  have hplZ : ∃ q, q ≤ 40 ∧ lfC (rsI I J c s) p (50 + 2 + p) 1 = nI q := by
    obtain ⟨w, q, -, a2, -, -, a5, -⟩ := hHZ.1 p hp3
    exact ⟨q, a2, a5⟩
  refine pMet_of (by decide) (Nat.le_of_ble_eq_true rfl) ?_
  refine pw_aload_n dX3_follow_0 rfl ?_
  refine pw_iload_n dX3_follow_1 rfl ?_
  refine pw_cVv (ci := 3) (y := yX3_restore) (cc := cX3_restore) (nL := 5) (ret := none) (rm := { frames := 1, cells := 0, slots := 0, locals := 22 }) dX3_follow_2 (c_restore _ _ (by omega) hc hI) w_X3_90 rfl (by decide) rfl ⟨by decide, by decide⟩ (by decide) (by decide) rfl (Nat.le_of_ble_eq_true rfl) (fun I2 J2 q2 => ?_)
  obtain ⟨rfl, rfl⟩ := rvv q2
  refine pw_aload_n dX3_follow_5 rfl ?_
  refine pw_getr dX3_follow_6 fl_X3_18 rfl rfl (by decide) (by decide) rfl ?_
  refine pw_getr dX3_follow_9 fl_X3_93 rfl rfl (by decide) (by decide) rfl ?_
  refine pw_iload_n dX3_follow_12 rfl ?_
  refine pw_aaldC (x := 52 + p) dX3_follow_13 rfl (by decide) (by decide) (vp_in_nI (by omega) (by decide)) (by rw [nI_clamp (by omega)]; rfl) ?_
  refine pw_geti dX3_follow_14 fl_X3_97 rfl (pS_coj hp3) (by omega) (by decide) ?_
  refine pw_istore dX3_follow_17 (by decide) ?_
  refine pw_iload dX3_follow_19 rfl ?_
  refine pw_iconst (v := 4) dX3_follow_21 (by decide) ?_
  refine pw_icmp_eq (tgt := 39) dX3_follow_22 (by decide) (fun h22 => ?_) (fun h22 => ?_)
  · refine pw_iconst (v := 0) dX3_follow_39 (by decide) ?_
    refine pw_iret dX3_follow_40 rfl rfl (by decide) (by decide) ?_
    exact ⟨_, rfl, rfl, rfl, by rw [fwS, if_pos (Or.inl h22)], by rw [fwS, if_pos (Or.inl h22)], by rw [fwS, if_pos (Or.inl h22)]⟩
  · refine pw_iload dX3_follow_25 rfl ?_
    refine pw_if_ne (tgt := 41) dX3_follow_27 (by decide) (fun h27 => ?_) (fun h27 => ?_)
    · refine pw_iload dX3_follow_41 rfl ?_
      refine pw_if_ne (tgt := 56) dX3_follow_43 (by decide) (fun _ => ?_) (fun z => absurd z h27)
      have hsk : ¬ skC (rsI I J c s) p := fun z => z.elim h22 (fun z => h27 z.1)
      have h2 := h1.moved hc hp hQ0 hH0 hsk
      have hIX : mvA (lfC (rsI I J c s) p) 50 p c 50 1 = nI c := h2.1.2.1.1
      have hSVX : SV (mvA (lfC (rsI I J c s) p) 50 p c) := h2.2.2.2.1.SV hf3
      have hfX : mvA (lfC (rsI I J c s) p) 50 p c 48 2 = nI f := h2.1.2.2.1.2.1
      refine pw_loc (L' := [(0, .ref 48), (1, .int (nI s)), (2, .int (nI p)), (3, .ref 1)]) rfl ?_
      have hZ : lfC (rsI I J c s) p = rsI I J c s := by unfold lfC; rw [if_neg h27]
      rw [← hZ]
      exact j_follow _ J _ (by omega) hp3 hc hf3 hPVZ hplZ hIZ hIX hSVX hfX ⟨_, rfl, rfl, rfl, by rw [fwS, if_neg hsk]; rfl, by rw [fwS, if_neg hsk]; rfl, by rw [fwS, if_neg hsk]; rfl⟩
    · refine pw_aload_n dX3_follow_30 rfl ?_
      refine pw_getr dX3_follow_31 fl_X3_22 rfl rfl (by decide) (by decide) rfl ?_
      refine pw_iload_n dX3_follow_34 rfl ?_
      refine pw_iald dX3_follow_35 rfl (by decide) (by decide) (vp_in_nI (by omega) (by decide)) ?_
      rw [nI_clamp (show p < 2 ^ 31 by omega)]
      refine pw_if_ne (tgt := 41) dX3_follow_36 (by decide) (fun h36 => ?_) (fun h36 => ?_)
      · refine pw_iload dX3_follow_41 rfl ?_
        refine pw_if_ne (tgt := 56) dX3_follow_43 (by decide) (fun z => absurd h27 z) (fun _ => ?_)
        refine pw_aload_n dX3_follow_46 rfl ?_
        refine pw_getr dX3_follow_47 fl_X3_22 rfl rfl (by decide) (by decide) rfl ?_
        refine pw_iload_n dX3_follow_50 rfl ?_
        refine pw_dup2 dX3_follow_51 rfl rfl ?_
        refine pw_iald dX3_follow_52 rfl (by decide) (by decide) (vp_in_nI (by omega) (by decide)) ?_
        rw [nI_clamp (show p < 2 ^ 31 by omega)]
        refine pw_iconst (v := 1) dX3_follow_53 (by decide) ?_
        refine pw_isub dX3_follow_54 ?_
        refine pw_iast dX3_follow_55 rfl (by decide) (by decide) (vp_in_nI (by omega) (by decide)) ?_
        rw [nI_clamp (show p < 2 ^ 31 by omega)]
        have hsk : ¬ skC (rsI I J c s) p := fun z => z.elim h22 (fun z => h36 z.2)
        have h2 := h1.moved hc hp hQ0 hH0 hsk
        have hIX : mvA (lfC (rsI I J c s) p) 50 p c 50 1 = nI c := h2.1.2.1.1
        have hSVX : SV (mvA (lfC (rsI I J c s) p) 50 p c) := h2.2.2.2.1.SV hf3
        have hfX : mvA (lfC (rsI I J c s) p) 50 p c 48 2 = nI f := h2.1.2.2.1.2.1
        refine pw_loc (L' := [(0, .ref 48), (1, .int (nI s)), (2, .int (nI p)), (3, .ref 1)]) rfl ?_
        have hZ : lfC (rsI I J c s) p = upI (rsI I J c s) 55 p (rsI I J c s 55 p - 1) := by unfold lfC; rw [if_pos h27]
        rw [← hZ]
        exact j_follow _ J _ (by omega) hp3 hc hf3 hPVZ hplZ hIZ hIX hSVX hfX ⟨_, rfl, rfl, rfl, by rw [fwS, if_neg hsk]; rfl, by rw [fwS, if_neg hsk]; rfl, by rw [fwS, if_neg hsk]; rfl⟩
      · refine pw_iconst (v := 0) dX3_follow_39 (by decide) ?_
        refine pw_iret dX3_follow_40 rfl rfl (by decide) (by decide) ?_
        exact ⟨_, rfl, rfl, rfl, by rw [fwS, if_pos (Or.inr ⟨h27, h36⟩)], by rw [fwS, if_pos (Or.inr ⟨h27, h36⟩)], by rw [fwS, if_pos (Or.inr ⟨h27, h36⟩)]⟩
