/-! a step of a contender, on the memory -/
def endI (I : pI) (a : Nat) : pI := upI (upI (upI (upI I a 0 0) a 1 0) a 2 0) a 3 0
def begI (I : pI) (a : Nat) (p n : Int32) : pI := upI (upI (upI (upI (upI (upI I a 0 1) a 1 0) a 2 (wnib (wnib 0 0 p) 1 n)) a 3 0) a 4 0) a 5 0
/-- the program's jumps lead to instructions that are there -/
def PV (I : pI) : Prop := ∀ i, i < 40 → (I (3 + i) 0 = 3 ∨ I (3 + i) 0 = 4 ∨ I (3 + i) 0 = 5) → ∃ c, c < 40 ∧ I (3 + i) 3 = nI c
/-- the loop of Hall.advance, m times left -/
def adL (h p c : Nat) : Nat → pI → pI
  | 0, I => upI I (h + 2 + p) 0 4
  | m + 1, I =>
    if 40 ≤ I (h + 2 + p) 1 then upI I (h + 2 + p) 0 4
    else if I (3 + (I (h + 2 + p) 1).toNatClampNeg) 0 = 13 then endI I (h + 2 + p)
    else if I (3 + (I (h + 2 + p) 1).toNatClampNeg) 0 = 12 ∧ I (h + 2 + p) 0 = 1 then enL h c 0 (enA I (h + 2 + p))
    else if 7 ≤ I (3 + (I (h + 2 + p) 1).toNatClampNeg) 0 ∧ I (3 + (I (h + 2 + p) 1).toNatClampNeg) 0 ≤ 11 then dS I h (h + 2 + p) (3 + (I (h + 2 + p) 1).toNatClampNeg)
    else adL h p c m (if m = 0 then I else dF I (h + 2 + p) (3 + (I (h + 2 + p) 1).toNatClampNeg))
def adv (I : pI) (h p c : Nat) : pI := adL h p c 61 (upI I (h + 2 + p) 5 (I (h + 2 + p) 5 + 1))
theorem dF_o {I : pI} {it now a k : Nat} (h : a ≠ it) : dF I it now a k = I a k := by
  unfold dF; repeat' split
  all_goals simp [upI_a h]
theorem dF_pl {I : pI} {it q : Nat} (hP : PV I) (hq : q < 40) (h : I it 1 = nI q) : ∃ q', q' ≤ 40 ∧ dF I it (3 + q) it 1 = nI q' := by
  have e1 : I it 1 + 1 = nI (q + 1) := by rw [h, nI_succ]
  have hj := hP q hq
  unfold dF
  by_cases h0 : I (3 + q) 0 = 0
  · exact ⟨q + 1, by omega, by rw [if_pos h0, upI_s, e1]⟩
  rw [if_neg h0]
  by_cases h1 : I (3 + q) 0 = 1
  · exact ⟨q + 1, by omega, by rw [if_pos h1, upI_s, e1]⟩
  rw [if_neg h1]
  by_cases h2 : I (3 + q) 0 = 2
  · exact ⟨q + 1, by omega, by rw [if_pos h2, upI_s, e1]⟩
  rw [if_neg h2]
  by_cases h3 : I (3 + q) 0 = 3
  · obtain ⟨c, hc, ec⟩ := hj (Or.inl h3)
    rw [if_pos h3, upI_s]
    split
    · exact ⟨c, by omega, ec⟩
    · exact ⟨q + 1, by omega, e1⟩
  rw [if_neg h3]
  by_cases h4 : I (3 + q) 0 = 4
  · obtain ⟨c, hc, ec⟩ := hj (Or.inr (Or.inl h4))
    rw [if_pos h4, upI_s]
    split
    · exact ⟨c, by omega, ec⟩
    · exact ⟨q + 1, by omega, e1⟩
  rw [if_neg h4]
  by_cases h5 : I (3 + q) 0 = 5
  · obtain ⟨c, hc, ec⟩ := hj (Or.inr (Or.inr h5))
    exact ⟨c, by omega, by rw [if_pos h5, upI_s, ec]⟩
  rw [if_neg h5]
  by_cases h6 : I (3 + q) 0 = 6
  · exact ⟨q + 1, by omega, by rw [if_pos h6, upI_s, e1]⟩
  · exact ⟨q + 1, by omega, by rw [if_neg h6, upI_s, e1]⟩
abbrev m_X1_advance : pT := (yX1_advance.cls, cX1_advance, 6, none, { frames := 2, cells := 0, slots := 0, locals := 50 }, [], none)
set_option maxRecDepth 100000 in
set_option maxHeartbeats 4000000 in
theorem l_adv {h p c : Nat} (hh : h = 43 ∨ h = 50) (hp : p < 3) (hc : c ≤ 3) (J : pJ) (Q : pQ) : ∀ (m d : Nat) (I : pI), d + m = 61 → PV I → (∃ q, q ≤ 40 ∧ I (h + 2 + p) 1 = nI q) → I h 1 = nI c → Q (.inl none) 84 (adL h p c m I) J pRs → PW m_X1_advance Q 20 [(0, .ref h), (1, .int (nI p)), (2, .ref 1), (3, .ref (h + 2 + p)), (4, .int (nI d))] [] 84 I J pRs 0 0 := by
  intro m
  induction m with
  | zero =>
    intro d I hdm hPV hpl hI hQ
    refine pw_iload dX1_advance_20 rfl ?_
    refine pw_bipush (v := 60) dX1_advance_22 (by decide) ?_
    refine pw_icmp_gt (tgt := 133) dX1_advance_24 (by decide) (fun h24 => ?_) (fun h24 => ?_)
    · refine pw_aload_n dX1_advance_133 rfl ?_
      refine pw_iconst (v := 4) dX1_advance_134 (by decide) ?_
      refine pw_puti dX1_advance_135 fl_X1_28 rfl rfl rfl rfl (hl_c hh hp) (hl_84c hh hp) (by decide) ?_
      refine pw_vret dX1_advance_138 rfl (by decide) (by decide) ?_
      exact hQ
    · exact absurd (nI_lt (a := 60) (by omega) (by omega)) h24
  | succ m ih =>
    intro d I hdm hPV hpl hI hQ
    obtain ⟨q, hq40, hq⟩ := hpl
    refine pw_iload dX1_advance_20 rfl ?_
    refine pw_bipush (v := 60) dX1_advance_22 (by decide) ?_
    refine pw_icmp_gt (tgt := 133) dX1_advance_24 (by decide) (fun h24 => ?_) (fun h24 => ?_)
    · exact absurd ((nI_ltI (a := 60) (by decide) (by omega)).mp h24) (by omega)
    · refine pw_aload_n dX1_advance_27 rfl ?_
      refine pw_geti dX1_advance_28 fl_X1_42 rfl (hl_c hh hp) (hl_84c hh hp) (by decide) ?_
      refine pw_bipush (v := 40) dX1_advance_31 (by decide) ?_
      refine pw_icmp_ge (tgt := 133) dX1_advance_33 (by decide) (fun h33 => ?_) (fun h33 => ?_)
      · refine pw_aload_n dX1_advance_133 rfl ?_
        refine pw_iconst (v := 4) dX1_advance_134 (by decide) ?_
        refine pw_puti dX1_advance_135 fl_X1_28 rfl rfl rfl rfl (hl_c hh hp) (hl_84c hh hp) (by decide) ?_
        refine pw_vret dX1_advance_138 rfl (by decide) (by decide) ?_
        rw [adL, if_pos h33] at hQ
        exact hQ
      · have hq2 : q < 40 := by
          rw [hq] at h33
          exact Nat.lt_of_not_le (fun z => h33 (nI_le (a := 40) z (by omega)))
        have e8 : (I (h + 2 + p) 1).toNatClampNeg = q := by rw [hq, nI_clamp (by omega)]
        refine pw_aload_n dX1_advance_36 rfl ?_
        refine pw_getr dX1_advance_37 fl_X1_45 rfl rfl (by decide) (by decide) rfl ?_
        refine pw_aload_n dX1_advance_40 rfl ?_
        refine pw_geti dX1_advance_41 fl_X1_42 rfl (hl_c hh hp) (hl_84c hh hp) (by decide) ?_
        refine pw_aaldI (x := 3 + q) dX1_advance_44 rfl (by decide) (by decide) (by rw [hq]; exact vp_in_nI hq2 (by decide)) (by rw [hq, nI_clamp (by omega)]; rfl) ?_
        refine pw_astore dX1_advance_45 (by decide) ?_
        refine pw_aload dX1_advance_47 rfl ?_
        refine pw_geti dX1_advance_49 fl_X1_51 rfl (pS_ins hq2) (by omega) (by decide) ?_
        refine pw_bipush (v := 13) dX1_advance_52 (by decide) ?_
        refine pw_icmp_ne (tgt := 62) dX1_advance_54 (by decide) (fun h54 => ?_) (fun h54 => ?_)
        · refine pw_aload dX1_advance_62 rfl ?_
          refine pw_geti dX1_advance_64 fl_X1_51 rfl (pS_ins hq2) (by omega) (by decide) ?_
          refine pw_bipush (v := 12) dX1_advance_67 (by decide) ?_
          refine pw_icmp_ne (tgt := 86) dX1_advance_69 (by decide) (fun h69 => ?_) (fun h69 => ?_)
          · refine pw_aload dX1_advance_86 rfl ?_
            refine pw_geti dX1_advance_88 fl_X1_51 rfl (pS_ins hq2) (by omega) (by decide) ?_
            refine pw_bipush (v := 7) dX1_advance_91 (by decide) ?_
            refine pw_icmp_lt (tgt := 114) dX1_advance_93 (by decide) (fun h93 => ?_) (fun h93 => ?_)
            · refine pw_iload dX1_advance_114 rfl ?_
              refine pw_bipush (v := 60) dX1_advance_116 (by decide) ?_
              refine pw_icmp_ge (tgt := 127) dX1_advance_118 (by decide) (fun h118 => ?_) (fun h118 => ?_)
              · refine pw_iinc (v := nI (d + 1)) dX1_advance_127 rfl (by rw [nI_succ]; rfl) (by decide) ?_
                refine pw_goto (tgt := 20) dX1_advance_130 (by decide) ?_
                refine pw_loc (L' := [(0, .ref h), (1, .int (nI p)), (2, .ref 1), (3, .ref (h + 2 + p)), (4, .int (nI (d + 1)))]) rfl ?_
                have hm0 : m = 0 := by have := (nI_leI (a := 60) (b := d) (by decide) (by omega)).mp h118; omega
                rw [adL, if_neg h33, e8, if_neg h54, if_neg (fun z => h69 z.1), if_neg (fun z => absurd z.1 (Int32.not_le.mpr h93))] at hQ
                rw [if_pos hm0] at hQ
                exact ih (d + 1) I (by omega) hPV ⟨q, hq40, hq⟩ hI hQ
              · refine pw_aload_n dX1_advance_121 rfl ?_
                refine pw_aload dX1_advance_122 rfl ?_
                refine pw_cSv (y := yX1_doFree) (cc := cX1_doFree) (nL := 4) (ret := none) (rm := { frames := 1, cells := 0, slots := 0, locals := 23 }) dX1_advance_124 (c_doFree _ _ (hl_c hh hp) (hl_84c hh hp) (pS_ins hq2) (by omega)) w_X1_67 rfl ⟨by decide, by decide⟩ (by decide) (by decide) rfl (Nat.le_of_ble_eq_true rfl) (fun I124 J124 q124 => ?_)
                obtain ⟨rfl, rfl⟩ := rvv q124
                refine pw_iinc (v := nI (d + 1)) dX1_advance_127 rfl (by rw [nI_succ]; rfl) (by decide) ?_
                refine pw_goto (tgt := 20) dX1_advance_130 (by decide) ?_
                refine pw_loc (L' := [(0, .ref h), (1, .int (nI p)), (2, .ref 1), (3, .ref (h + 2 + p)), (4, .int (nI (d + 1)))]) rfl ?_
                have hm0 : ¬ m = 0 := fun z => h118 ((nI_leI (a := 60) (b := d) (by decide) (by omega)).mpr (by omega))
                rw [adL, if_neg h33, e8, if_neg h54, if_neg (fun z => h69 z.1), if_neg (fun z => absurd z.1 (Int32.not_le.mpr h93))] at hQ
                rw [if_neg hm0] at hQ
                exact ih (d + 1) _ (by omega) (fun i hi => by rw [dF_o (by omega), dF_o (by omega)]; exact hPV i hi) (dF_pl hPV hq2 hq) (by rw [dF_o (by omega)]; exact hI) hQ
            · refine pw_aload dX1_advance_96 rfl ?_
              refine pw_geti dX1_advance_98 fl_X1_51 rfl (pS_ins hq2) (by omega) (by decide) ?_
              refine pw_bipush (v := 11) dX1_advance_101 (by decide) ?_
              refine pw_icmp_gt (tgt := 114) dX1_advance_103 (by decide) (fun h103 => ?_) (fun h103 => ?_)
              · refine pw_iload dX1_advance_114 rfl ?_
                refine pw_bipush (v := 60) dX1_advance_116 (by decide) ?_
                refine pw_icmp_ge (tgt := 127) dX1_advance_118 (by decide) (fun h118_1 => ?_) (fun h118_1 => ?_)
                · refine pw_iinc (v := nI (d + 1)) dX1_advance_127 rfl (by rw [nI_succ]; rfl) (by decide) ?_
                  refine pw_goto (tgt := 20) dX1_advance_130 (by decide) ?_
                  refine pw_loc (L' := [(0, .ref h), (1, .int (nI p)), (2, .ref 1), (3, .ref (h + 2 + p)), (4, .int (nI (d + 1)))]) rfl ?_
                  have hm0 : m = 0 := by have := (nI_leI (a := 60) (b := d) (by decide) (by omega)).mp h118_1; omega
                  rw [adL, if_neg h33, e8, if_neg h54, if_neg (fun z => h69 z.1), if_neg (fun z => absurd z.2 (Int32.not_le.mpr h103))] at hQ
                  rw [if_pos hm0] at hQ
                  exact ih (d + 1) I (by omega) hPV ⟨q, hq40, hq⟩ hI hQ
                · refine pw_aload_n dX1_advance_121 rfl ?_
                  refine pw_aload dX1_advance_122 rfl ?_
                  refine pw_cSv (y := yX1_doFree) (cc := cX1_doFree) (nL := 4) (ret := none) (rm := { frames := 1, cells := 0, slots := 0, locals := 23 }) dX1_advance_124 (c_doFree _ _ (hl_c hh hp) (hl_84c hh hp) (pS_ins hq2) (by omega)) w_X1_67 rfl ⟨by decide, by decide⟩ (by decide) (by decide) rfl (Nat.le_of_ble_eq_true rfl) (fun I124_1 J124_1 q124_1 => ?_)
                  obtain ⟨rfl, rfl⟩ := rvv q124_1
                  refine pw_iinc (v := nI (d + 1)) dX1_advance_127 rfl (by rw [nI_succ]; rfl) (by decide) ?_
                  refine pw_goto (tgt := 20) dX1_advance_130 (by decide) ?_
                  refine pw_loc (L' := [(0, .ref h), (1, .int (nI p)), (2, .ref 1), (3, .ref (h + 2 + p)), (4, .int (nI (d + 1)))]) rfl ?_
                  have hm0 : ¬ m = 0 := fun z => h118_1 ((nI_leI (a := 60) (b := d) (by decide) (by omega)).mpr (by omega))
                  rw [adL, if_neg h33, e8, if_neg h54, if_neg (fun z => h69 z.1), if_neg (fun z => absurd z.2 (Int32.not_le.mpr h103))] at hQ
                  rw [if_neg hm0] at hQ
                  exact ih (d + 1) _ (by omega) (fun i hi => by rw [dF_o (by omega), dF_o (by omega)]; exact hPV i hi) (dF_pl hPV hq2 hq) (by rw [dF_o (by omega)]; exact hI) hQ
              · refine pw_aload_n dX1_advance_106 rfl ?_
                refine pw_aload_n dX1_advance_107 rfl ?_
                refine pw_aload dX1_advance_108 rfl ?_
                refine pw_cVv (ci := 1) (y := yX1_doShared) (cc := cX1_doShared) (nL := 8) (ret := none) (rm := { frames := 1, cells := 0, slots := 0, locals := 23 }) dX1_advance_110 (c_doShared _ _ (hl_h hh) (hl_84 hh) (hl_c hh hp) (hl_84c hh hp) (pS_ins hq2) (by omega)) w_X1_63 (hl_h hh) (hl_84 hh) rfl ⟨by decide, by decide⟩ (by decide) (by decide) rfl (Nat.le_of_ble_eq_true rfl) (fun I110 J110 q110 => ?_)
                obtain ⟨rfl, rfl⟩ := rvv q110
                refine pw_vret dX1_advance_113 rfl (by decide) (by decide) ?_
                rw [adL, if_neg h33, e8, if_neg h54, if_neg (fun z => h69 z.1), if_pos ⟨Int32.not_lt.mp h93, Int32.not_lt.mp h103⟩] at hQ
                exact hQ
          · refine pw_aload_n dX1_advance_72 rfl ?_
            refine pw_geti dX1_advance_73 fl_X1_28 rfl (hl_c hh hp) (hl_84c hh hp) (by decide) ?_
            refine pw_iconst (v := 1) dX1_advance_76 (by decide) ?_
            refine pw_icmp_ne (tgt := 86) dX1_advance_77 (by decide) (fun h77 => ?_) (fun h77 => ?_)
            · refine pw_aload dX1_advance_86 rfl ?_
              refine pw_geti dX1_advance_88 fl_X1_51 rfl (pS_ins hq2) (by omega) (by decide) ?_
              refine pw_bipush (v := 7) dX1_advance_91 (by decide) ?_
              refine pw_icmp_lt (tgt := 114) dX1_advance_93 (by decide) (fun h93_1 => ?_) (fun h93_1 => ?_)
              · refine pw_iload dX1_advance_114 rfl ?_
                refine pw_bipush (v := 60) dX1_advance_116 (by decide) ?_
                refine pw_icmp_ge (tgt := 127) dX1_advance_118 (by decide) (fun h118_2 => ?_) (fun h118_2 => ?_)
                · refine pw_iinc (v := nI (d + 1)) dX1_advance_127 rfl (by rw [nI_succ]; rfl) (by decide) ?_
                  refine pw_goto (tgt := 20) dX1_advance_130 (by decide) ?_
                  refine pw_loc (L' := [(0, .ref h), (1, .int (nI p)), (2, .ref 1), (3, .ref (h + 2 + p)), (4, .int (nI (d + 1)))]) rfl ?_
                  have hm0 : m = 0 := by have := (nI_leI (a := 60) (b := d) (by decide) (by omega)).mp h118_2; omega
                  rw [adL, if_neg h33, e8, if_neg h54, if_neg (fun z => h77 z.2), if_neg (fun z => absurd z.1 (Int32.not_le.mpr h93_1))] at hQ
                  rw [if_pos hm0] at hQ
                  exact ih (d + 1) I (by omega) hPV ⟨q, hq40, hq⟩ hI hQ
                · refine pw_aload_n dX1_advance_121 rfl ?_
                  refine pw_aload dX1_advance_122 rfl ?_
                  refine pw_cSv (y := yX1_doFree) (cc := cX1_doFree) (nL := 4) (ret := none) (rm := { frames := 1, cells := 0, slots := 0, locals := 23 }) dX1_advance_124 (c_doFree _ _ (hl_c hh hp) (hl_84c hh hp) (pS_ins hq2) (by omega)) w_X1_67 rfl ⟨by decide, by decide⟩ (by decide) (by decide) rfl (Nat.le_of_ble_eq_true rfl) (fun I124_2 J124_2 q124_2 => ?_)
                  obtain ⟨rfl, rfl⟩ := rvv q124_2
                  refine pw_iinc (v := nI (d + 1)) dX1_advance_127 rfl (by rw [nI_succ]; rfl) (by decide) ?_
                  refine pw_goto (tgt := 20) dX1_advance_130 (by decide) ?_
                  refine pw_loc (L' := [(0, .ref h), (1, .int (nI p)), (2, .ref 1), (3, .ref (h + 2 + p)), (4, .int (nI (d + 1)))]) rfl ?_
                  have hm0 : ¬ m = 0 := fun z => h118_2 ((nI_leI (a := 60) (b := d) (by decide) (by omega)).mpr (by omega))
                  rw [adL, if_neg h33, e8, if_neg h54, if_neg (fun z => h77 z.2), if_neg (fun z => absurd z.1 (Int32.not_le.mpr h93_1))] at hQ
                  rw [if_neg hm0] at hQ
                  exact ih (d + 1) _ (by omega) (fun i hi => by rw [dF_o (by omega), dF_o (by omega)]; exact hPV i hi) (dF_pl hPV hq2 hq) (by rw [dF_o (by omega)]; exact hI) hQ
              · refine pw_aload dX1_advance_96 rfl ?_
                refine pw_geti dX1_advance_98 fl_X1_51 rfl (pS_ins hq2) (by omega) (by decide) ?_
                refine pw_bipush (v := 11) dX1_advance_101 (by decide) ?_
                refine pw_icmp_gt (tgt := 114) dX1_advance_103 (by decide) (fun h103_1 => ?_) (fun h103_1 => ?_)
                · refine pw_iload dX1_advance_114 rfl ?_
                  refine pw_bipush (v := 60) dX1_advance_116 (by decide) ?_
                  refine pw_icmp_ge (tgt := 127) dX1_advance_118 (by decide) (fun h118_3 => ?_) (fun h118_3 => ?_)
                  · refine pw_iinc (v := nI (d + 1)) dX1_advance_127 rfl (by rw [nI_succ]; rfl) (by decide) ?_
                    refine pw_goto (tgt := 20) dX1_advance_130 (by decide) ?_
                    refine pw_loc (L' := [(0, .ref h), (1, .int (nI p)), (2, .ref 1), (3, .ref (h + 2 + p)), (4, .int (nI (d + 1)))]) rfl ?_
                    have hm0 : m = 0 := by have := (nI_leI (a := 60) (b := d) (by decide) (by omega)).mp h118_3; omega
                    rw [adL, if_neg h33, e8, if_neg h54, if_neg (fun z => h77 z.2), if_neg (fun z => absurd z.2 (Int32.not_le.mpr h103_1))] at hQ
                    rw [if_pos hm0] at hQ
                    exact ih (d + 1) I (by omega) hPV ⟨q, hq40, hq⟩ hI hQ
                  · refine pw_aload_n dX1_advance_121 rfl ?_
                    refine pw_aload dX1_advance_122 rfl ?_
                    refine pw_cSv (y := yX1_doFree) (cc := cX1_doFree) (nL := 4) (ret := none) (rm := { frames := 1, cells := 0, slots := 0, locals := 23 }) dX1_advance_124 (c_doFree _ _ (hl_c hh hp) (hl_84c hh hp) (pS_ins hq2) (by omega)) w_X1_67 rfl ⟨by decide, by decide⟩ (by decide) (by decide) rfl (Nat.le_of_ble_eq_true rfl) (fun I124_3 J124_3 q124_3 => ?_)
                    obtain ⟨rfl, rfl⟩ := rvv q124_3
                    refine pw_iinc (v := nI (d + 1)) dX1_advance_127 rfl (by rw [nI_succ]; rfl) (by decide) ?_
                    refine pw_goto (tgt := 20) dX1_advance_130 (by decide) ?_
                    refine pw_loc (L' := [(0, .ref h), (1, .int (nI p)), (2, .ref 1), (3, .ref (h + 2 + p)), (4, .int (nI (d + 1)))]) rfl ?_
                    have hm0 : ¬ m = 0 := fun z => h118_3 ((nI_leI (a := 60) (b := d) (by decide) (by omega)).mpr (by omega))
                    rw [adL, if_neg h33, e8, if_neg h54, if_neg (fun z => h77 z.2), if_neg (fun z => absurd z.2 (Int32.not_le.mpr h103_1))] at hQ
                    rw [if_neg hm0] at hQ
                    exact ih (d + 1) _ (by omega) (fun i hi => by rw [dF_o (by omega), dF_o (by omega)]; exact hPV i hi) (dF_pl hPV hq2 hq) (by rw [dF_o (by omega)]; exact hI) hQ
                · refine pw_aload_n dX1_advance_106 rfl ?_
                  refine pw_aload_n dX1_advance_107 rfl ?_
                  refine pw_aload dX1_advance_108 rfl ?_
                  refine pw_cVv (ci := 1) (y := yX1_doShared) (cc := cX1_doShared) (nL := 8) (ret := none) (rm := { frames := 1, cells := 0, slots := 0, locals := 23 }) dX1_advance_110 (c_doShared _ _ (hl_h hh) (hl_84 hh) (hl_c hh hp) (hl_84c hh hp) (pS_ins hq2) (by omega)) w_X1_63 (hl_h hh) (hl_84 hh) rfl ⟨by decide, by decide⟩ (by decide) (by decide) rfl (Nat.le_of_ble_eq_true rfl) (fun I110_1 J110_1 q110_1 => ?_)
                  obtain ⟨rfl, rfl⟩ := rvv q110_1
                  refine pw_vret dX1_advance_113 rfl (by decide) (by decide) ?_
                  rw [adL, if_neg h33, e8, if_neg h54, if_neg (fun z => h77 z.2), if_pos ⟨Int32.not_lt.mp h93_1, Int32.not_lt.mp h103_1⟩] at hQ
                  exact hQ
            · refine pw_aload_n dX1_advance_80 rfl ?_
              refine pw_iload_n dX1_advance_81 rfl ?_
              refine pw_cVv (ci := 1) (y := yX1_enter) (cc := cX1_enter) (nL := 5) (ret := none) (rm := { frames := 0, cells := 0, slots := 0, locals := 0 }) dX1_advance_82 (c_enter _ _ hh hp hc hI) w_X1_59 (hl_h hh) (hl_84 hh) rfl ⟨by decide, by decide⟩ (by decide) (by decide) rfl (Nat.le_of_ble_eq_true rfl) (fun I82 J82 q82 => ?_)
              obtain ⟨rfl, rfl⟩ := rvv q82
              refine pw_vret dX1_advance_85 rfl (by decide) (by decide) ?_
              rw [adL, if_neg h33, e8, if_neg h54, if_pos ⟨h69, h77⟩] at hQ
              exact hQ
        · refine pw_aload_n dX1_advance_57 rfl ?_
          refine pw_cVv (ci := 0) (y := yX0_end) (cc := cX0_end) (nL := 1) (ret := none) (rm := { frames := 0, cells := 0, slots := 0, locals := 0 }) dX1_advance_58 (c_end _ _ (hl_c hh hp) (hl_84c hh hp)) w_X1_56 (hl_c hh hp) (hl_84c hh hp) rfl ⟨by decide, by decide⟩ (by decide) (by decide) rfl (Nat.le_of_ble_eq_true rfl) (fun I58 J58 q58 => ?_)
          obtain ⟨rfl, rfl⟩ := rvv q58
          refine pw_vret dX1_advance_61 rfl (by decide) (by decide) ?_
          rw [adL, if_neg h33, e8, if_pos h54] at hQ
          exact hQ
set_option maxRecDepth 100000 in
set_option maxHeartbeats 4000000 in
theorem c_advance {h p c : Nat} (I : pI) (J : pJ) (hh : h = 43 ∨ h = 50) (hp : p < 3) (hc : c ≤ 3) (hPV : PV I) (hpl : ∃ q, q ≤ 40 ∧ I (h + 2 + p) 1 = nI q) (hI : I h 1 = nI c) : pMet yX1_advance (pws yX1_advance cX1_advance 6 none) { frames := 2, cells := 0, slots := 0, locals := 50 } [.ref h, .int (nI p), .ref 1] 84 I J pRs (pOv (fun I' J' => I' = adv I h p c ∧ J' = J)) := by
  refine pMet_of (by decide) (Nat.le_of_ble_eq_true rfl) ?_
  refine pw_aload_n dX1_advance_0 rfl ?_
  refine pw_getr dX1_advance_1 fl_X1_11 rfl (hl_h hh) (hl_84 hh) (by decide) (hl_pr hh) ?_
  refine pw_iload_n dX1_advance_4 rfl ?_
  refine pw_aaldC dX1_advance_5 (hl_ar hh) (hl_84' hh) (by decide) (vp_in_nI (by omega) (by decide)) (hl_at hh hp) ?_
  refine pw_astore_n dX1_advance_6 (by decide) ?_
  refine pw_aload_n dX1_advance_7 rfl ?_
  refine pw_dup dX1_advance_8 rfl ?_
  refine pw_geti dX1_advance_9 fl_X1_39 rfl (hl_c hh hp) (hl_84c hh hp) (by decide) ?_
  refine pw_iconst (v := 1) dX1_advance_12 (by decide) ?_
  refine pw_iadd dX1_advance_13 ?_
  refine pw_puti dX1_advance_14 fl_X1_39 rfl rfl rfl rfl (hl_c hh hp) (hl_84c hh hp) (by decide) ?_
  refine pw_iconst (v := 0) dX1_advance_17 (by decide) ?_
  refine pw_istore dX1_advance_18 (by decide) ?_
  refine pw_loc (L' := [(0, .ref h), (1, .int (nI p)), (2, .ref 1), (3, .ref (h + 2 + p)), (4, .int (nI 0))]) rfl ?_
  exact l_adv hh hp hc J _ 61 0 _ (by decide) (fun i hi => by rw [upI_a (by omega), upI_a (by omega)]; exact hPV i hi) (by rw [upI_k (by decide)]; exact hpl) (by rw [upI_a (by omega)]; exact hI) ⟨rfl, rfl, rfl, rfl, rfl⟩
/-- Hall.makeMove on the memory: first the attempt begins, or it leaves -/
def mvB (I : pI) (h p c : Nat) : pI := if I (h + 2 + p) 0 = 0 then begI I (h + 2 + p) (nI p) (nI c) else if I (h + 2 + p) 0 = 2 then upI I (h + 2 + p) 0 3 else I
def mvA (I : pI) (h p c : Nat) : pI := if I (h + 2 + p) 0 = 4 then I else adv (mvB I h p c) h p c
theorem begI_o {I : pI} {a b k : Nat} {x y : Int32} (h : b ≠ a) : begI I a x y b k = I b k := by simp [begI, upI_a h]
theorem mvB_o {I : pI} {h p c b k : Nat} (hb : b ≠ h + 2 + p) : mvB I h p c b k = I b k := by
  unfold mvB; repeat' split
  · exact begI_o hb
  · exact upI_a hb
  · rfl
theorem mvB_pl {I : pI} {h p c : Nat} (hpl : ∃ q, q ≤ 40 ∧ I (h + 2 + p) 1 = nI q) : ∃ q, q ≤ 40 ∧ mvB I h p c (h + 2 + p) 1 = nI q := by
  unfold mvB; repeat' split
  · exact ⟨0, by decide, by simp [begI, upI, nI_0]⟩
  · rw [upI_k (by decide)]; exact hpl
  · exact hpl
set_option maxRecDepth 100000 in
set_option maxHeartbeats 4000000 in
theorem c_makeMove {h p c : Nat} (I : pI) (J : pJ) (hh : h = 43 ∨ h = 50) (hp : p < 3) (hc : c ≤ 3) (hPV : PV I) (hpl : ∃ q, q ≤ 40 ∧ I (h + 2 + p) 1 = nI q) (hI : I h 1 = nI c) : pMet yX1_makeMove (pws yX1_makeMove cX1_makeMove 4 none) { frames := 3, cells := 0, slots := 0, locals := 75 } [.ref h, .int (nI p), .ref 1] 84 I J pRs (pOv (fun I' J' => I' = mvA I h p c ∧ J' = J)) := by
  refine pMet_of (by decide) (Nat.le_of_ble_eq_true rfl) ?_
  refine pw_aload_n dX1_makeMove_0 rfl ?_
  refine pw_getr dX1_makeMove_1 fl_X1_11 rfl (hl_h hh) (hl_84 hh) (by decide) (hl_pr hh) ?_
  refine pw_iload_n dX1_makeMove_4 rfl ?_
  refine pw_aaldC dX1_makeMove_5 (hl_ar hh) (hl_84' hh) (by decide) (vp_in_nI (by omega) (by decide)) (hl_at hh hp) ?_
  refine pw_astore_n dX1_makeMove_6 (by decide) ?_
  refine pw_aload_n dX1_makeMove_7 rfl ?_
  refine pw_geti dX1_makeMove_8 fl_X1_28 rfl (hl_c hh hp) (hl_84c hh hp) (by decide) ?_
  refine pw_iconst (v := 4) dX1_makeMove_11 (by decide) ?_
  refine pw_icmp_ne (tgt := 16) dX1_makeMove_12 (by decide) (fun h12 => ?_) (fun h12 => ?_)
  · refine pw_aload_n dX1_makeMove_16 rfl ?_
    refine pw_geti dX1_makeMove_17 fl_X1_28 rfl (hl_c hh hp) (hl_84c hh hp) (by decide) ?_
    refine pw_if_ne (tgt := 35) dX1_makeMove_20 (by decide) (fun h20 => ?_) (fun h20 => ?_)
    · refine pw_aload_n dX1_makeMove_35 rfl ?_
      refine pw_geti dX1_makeMove_36 fl_X1_28 rfl (hl_c hh hp) (hl_84c hh hp) (by decide) ?_
      refine pw_iconst (v := 2) dX1_makeMove_39 (by decide) ?_
      refine pw_icmp_ne (tgt := 48) dX1_makeMove_40 (by decide) (fun h40 => ?_) (fun h40 => ?_)
      · have e9 : mvB I h p c = I := by rw [mvB, if_neg h20, if_neg h40]
        
        refine pw_aload_n dX1_makeMove_48 rfl ?_
        refine pw_iload_n dX1_makeMove_49 rfl ?_
        refine pw_aload_n dX1_makeMove_50 rfl ?_
        refine pw_cVv (ci := 1) (y := yX1_advance) (cc := cX1_advance) (nL := 6) (ret := none) (rm := { frames := 2, cells := 0, slots := 0, locals := 50 }) dX1_makeMove_51 (c_advance _ _ hh hp hc (fun i hi => by rw [← e9, mvB_o (by omega), mvB_o (by omega)]; exact hPV i hi) (by rw [← e9]; exact mvB_pl hpl) (by rw [← e9, mvB_o (by omega)]; exact hI)) w_X1_35 (hl_h hh) (hl_84 hh) rfl ⟨by decide, by decide⟩ (by decide) (by decide) rfl (Nat.le_of_ble_eq_true rfl) (fun I51 J51 q51 => ?_)
        obtain ⟨rfl, rfl⟩ := rvv q51
        refine pw_vret dX1_makeMove_54 rfl (by decide) (by decide) ?_
        exact ⟨rfl, rfl, rfl, by rw [mvA, if_neg h12, e9], rfl⟩
      · refine pw_aload_n dX1_makeMove_43 rfl ?_
        refine pw_iconst (v := 3) dX1_makeMove_44 (by decide) ?_
        refine pw_puti dX1_makeMove_45 fl_X1_28 rfl rfl rfl rfl (hl_c hh hp) (hl_84c hh hp) (by decide) ?_
        have e9 : mvB I h p c = upI I (h + 2 + p) 0 3 := by rw [mvB, if_neg h20, if_pos h40]
        
        refine pw_aload_n dX1_makeMove_48 rfl ?_
        refine pw_iload_n dX1_makeMove_49 rfl ?_
        refine pw_aload_n dX1_makeMove_50 rfl ?_
        refine pw_cVv (ci := 1) (y := yX1_advance) (cc := cX1_advance) (nL := 6) (ret := none) (rm := { frames := 2, cells := 0, slots := 0, locals := 50 }) dX1_makeMove_51 (c_advance _ _ hh hp hc (fun i hi => by rw [← e9, mvB_o (by omega), mvB_o (by omega)]; exact hPV i hi) (by rw [← e9]; exact mvB_pl hpl) (by rw [← e9, mvB_o (by omega)]; exact hI)) w_X1_35 (hl_h hh) (hl_84 hh) rfl ⟨by decide, by decide⟩ (by decide) (by decide) rfl (Nat.le_of_ble_eq_true rfl) (fun I51 J51 q51 => ?_)
        obtain ⟨rfl, rfl⟩ := rvv q51
        refine pw_vret dX1_makeMove_54 rfl (by decide) (by decide) ?_
        exact ⟨rfl, rfl, rfl, by rw [mvA, if_neg h12, e9], rfl⟩
    · refine pw_aload_n dX1_makeMove_23 rfl ?_
      refine pw_iload_n dX1_makeMove_24 rfl ?_
      refine pw_aload_n dX1_makeMove_25 rfl ?_
      refine pw_geti dX1_makeMove_26 fl_X1_18 rfl (hl_h hh) (hl_84 hh) (by decide) ?_
      refine pw_cVv (ci := 0) (y := yX0_begin) (cc := cX0_begin) (nL := 3) (ret := none) (rm := { frames := 1, cells := 0, slots := 0, locals := 23 }) dX1_makeMove_29 (c_begin _ _ _ _ (hl_c hh hp) (hl_84c hh hp)) w_X1_31 (hl_c hh hp) (hl_84c hh hp) rfl ⟨by decide, by decide⟩ (by decide) (by decide) rfl (Nat.le_of_ble_eq_true rfl) (fun I29 J29 q29 => ?_)
      obtain ⟨rfl, rfl⟩ := rvv q29
      refine pw_goto (tgt := 48) dX1_makeMove_32 (by decide) ?_
      have e9 : mvB I h p c = upI (upI (upI (upI (upI (upI I (h + 2 + p) 0 1) (h + 2 + p) 1 0) (h + 2 + p) 2 (wnib (wnib 0 0 (nI p)) 1 (I h 1))) (h + 2 + p) 3 0) (h + 2 + p) 4 0) (h + 2 + p) 5 0 := by rw [mvB, if_pos h20, begI, hI]
      
      refine pw_aload_n dX1_makeMove_48 rfl ?_
      refine pw_iload_n dX1_makeMove_49 rfl ?_
      refine pw_aload_n dX1_makeMove_50 rfl ?_
      refine pw_cVv (ci := 1) (y := yX1_advance) (cc := cX1_advance) (nL := 6) (ret := none) (rm := { frames := 2, cells := 0, slots := 0, locals := 50 }) dX1_makeMove_51 (c_advance _ _ hh hp hc (fun i hi => by rw [← e9, mvB_o (by omega), mvB_o (by omega)]; exact hPV i hi) (by rw [← e9]; exact mvB_pl hpl) (by rw [← e9, mvB_o (by omega)]; exact hI)) w_X1_35 (hl_h hh) (hl_84 hh) rfl ⟨by decide, by decide⟩ (by decide) (by decide) rfl (Nat.le_of_ble_eq_true rfl) (fun I51 J51 q51 => ?_)
      obtain ⟨rfl, rfl⟩ := rvv q51
      refine pw_vret dX1_makeMove_54 rfl (by decide) (by decide) ?_
      exact ⟨rfl, rfl, rfl, by rw [mvA, if_neg h12, e9], rfl⟩
  · refine pw_vret dX1_makeMove_15 rfl (by decide) (by decide) ?_
    exact ⟨rfl, rfl, rfl, by rw [mvA, if_pos h12], rfl⟩
def fgI (I : pI) (a : Nat) : pI := upI (upI (endI I a) a 4 0) a 5 0
def clI (I : pI) (h : Nat) (n : Int32) : pI := fgI (fgI (fgI (upI (upI I h 1 n) h 2 0) (h + 2 + 0)) (h + 2 + 1)) (h + 2 + 2)
set_option maxRecDepth 100000 in
set_option maxHeartbeats 4000000 in
theorem c_clear {h : Nat} (n : Int32) (I : pI) (J : pJ) (hh : h = 43 ∨ h = 50) : pMet yX1_clear (pws yX1_clear cX1_clear 3 none) { frames := 2, cells := 0, slots := 0, locals := 40 } [.ref h, .int n] 84 I J pRs (pOv (fun I' J' => I' = clI I h n ∧ J' = J)) := by
  refine pMet_of (by decide) (Nat.le_of_ble_eq_true rfl) ?_
  refine pw_aload_n dX1_clear_0 rfl ?_
  refine pw_iload_n dX1_clear_1 rfl ?_
  refine pw_puti dX1_clear_2 fl_X1_18 rfl rfl rfl rfl (hl_h hh) (hl_84 hh) (by decide) ?_
  refine pw_aload_n dX1_clear_5 rfl ?_
  refine pw_iconst (v := 0) dX1_clear_6 (by decide) ?_
  refine pw_puti dX1_clear_7 fl_X1_22 rfl rfl rfl rfl (hl_h hh) (hl_84 hh) (by decide) ?_
  refine pw_iconst (v := 0) dX1_clear_10 (by decide) ?_
  refine pw_istore_n dX1_clear_11 (by decide) ?_
  refine pw_iload_n dX1_clear_12 rfl ?_
  refine pw_iconst (v := 3) dX1_clear_13 (by decide) ?_
  refine pw_icmp_ge (tgt := 32) dX1_clear_14 (by decide) (fun h14 => ?_) (fun h14 => ?_)
  · exact absurd h14 (by decide)
  · refine pw_aload_n dX1_clear_17 rfl ?_
    refine pw_getr dX1_clear_18 fl_X1_11 rfl (hl_h hh) (hl_84 hh) (by decide) (hl_pr hh) ?_
    refine pw_iload_n dX1_clear_21 rfl ?_
    refine pw_aaldC (x := h + 2 + 0) dX1_clear_22 (hl_ar hh) (hl_84' hh) (by decide) (by unfold vp_in; decide) (by rcases hh with rfl | rfl <;> rfl) ?_
    refine pw_cVv (ci := 0) (y := yX0_forget) (cc := cX0_forget) (nL := 1) (ret := none) (rm := { frames := 1, cells := 0, slots := 0, locals := 20 }) dX1_clear_23 (c_forget _ _ (hl_c hh (by decide)) (hl_84c hh (by decide))) w_X1_25 (hl_c hh (by decide)) (hl_84c hh (by decide)) rfl ⟨by decide, by decide⟩ (by decide) (by decide) rfl (Nat.le_of_ble_eq_true rfl) (fun I23 J23 q23 => ?_)
    obtain ⟨rfl, rfl⟩ := rvv q23
    refine pw_iinc (v := 1) dX1_clear_26 rfl (by decide) (by decide) ?_
    refine pw_goto (tgt := 12) dX1_clear_29 (by decide) ?_
    refine pw_iload_n dX1_clear_12 rfl ?_
    refine pw_iconst (v := 3) dX1_clear_13 (by decide) ?_
    refine pw_icmp_ge (tgt := 32) dX1_clear_14 (by decide) (fun h14_1 => ?_) (fun h14_1 => ?_)
    · exact absurd h14_1 (by decide)
    · refine pw_aload_n dX1_clear_17 rfl ?_
      refine pw_getr dX1_clear_18 fl_X1_11 rfl (hl_h hh) (hl_84 hh) (by decide) (hl_pr hh) ?_
      refine pw_iload_n dX1_clear_21 rfl ?_
      refine pw_aaldC (x := h + 2 + 1) dX1_clear_22 (hl_ar hh) (hl_84' hh) (by decide) (by unfold vp_in; decide) (by rcases hh with rfl | rfl <;> rfl) ?_
      refine pw_cVv (ci := 0) (y := yX0_forget) (cc := cX0_forget) (nL := 1) (ret := none) (rm := { frames := 1, cells := 0, slots := 0, locals := 20 }) dX1_clear_23 (c_forget _ _ (hl_c hh (by decide)) (hl_84c hh (by decide))) w_X1_25 (hl_c hh (by decide)) (hl_84c hh (by decide)) rfl ⟨by decide, by decide⟩ (by decide) (by decide) rfl (Nat.le_of_ble_eq_true rfl) (fun I23_1 J23_1 q23_1 => ?_)
      obtain ⟨rfl, rfl⟩ := rvv q23_1
      refine pw_iinc (v := 2) dX1_clear_26 rfl (by decide) (by decide) ?_
      refine pw_goto (tgt := 12) dX1_clear_29 (by decide) ?_
      refine pw_iload_n dX1_clear_12 rfl ?_
      refine pw_iconst (v := 3) dX1_clear_13 (by decide) ?_
      refine pw_icmp_ge (tgt := 32) dX1_clear_14 (by decide) (fun h14_2 => ?_) (fun h14_2 => ?_)
      · exact absurd h14_2 (by decide)
      · refine pw_aload_n dX1_clear_17 rfl ?_
        refine pw_getr dX1_clear_18 fl_X1_11 rfl (hl_h hh) (hl_84 hh) (by decide) (hl_pr hh) ?_
        refine pw_iload_n dX1_clear_21 rfl ?_
        refine pw_aaldC (x := h + 2 + 2) dX1_clear_22 (hl_ar hh) (hl_84' hh) (by decide) (by unfold vp_in; decide) (by rcases hh with rfl | rfl <;> rfl) ?_
        refine pw_cVv (ci := 0) (y := yX0_forget) (cc := cX0_forget) (nL := 1) (ret := none) (rm := { frames := 1, cells := 0, slots := 0, locals := 20 }) dX1_clear_23 (c_forget _ _ (hl_c hh (by decide)) (hl_84c hh (by decide))) w_X1_25 (hl_c hh (by decide)) (hl_84c hh (by decide)) rfl ⟨by decide, by decide⟩ (by decide) (by decide) rfl (Nat.le_of_ble_eq_true rfl) (fun I23_2 J23_2 q23_2 => ?_)
        obtain ⟨rfl, rfl⟩ := rvv q23_2
        refine pw_iinc (v := 3) dX1_clear_26 rfl (by decide) (by decide) ?_
        refine pw_goto (tgt := 12) dX1_clear_29 (by decide) ?_
        refine pw_iload_n dX1_clear_12 rfl ?_
        refine pw_iconst (v := 3) dX1_clear_13 (by decide) ?_
        refine pw_icmp_ge (tgt := 32) dX1_clear_14 (by decide) (fun h14_3 => ?_) (fun h14_3 => ?_)
        · refine pw_vret dX1_clear_32 rfl (by decide) (by decide) ?_
          exact ⟨rfl, rfl, rfl, rfl, rfl⟩
        · exact absurd (show (3 : Int32) ≤ 3 by decide) h14_3
