/-! THE REFERENCE: walk and move; b is 0 (the museum) or 8 (the judge) -/
theorem mb_k {k a b d : Int32} (h : mbP k a b d) : ∃ v, v ≤ 13 ∧ k = nI v := by
  by_cases h0 : k = 0
  · exact ⟨0, by decide, h0⟩
  by_cases h1 : k = 1
  · exact ⟨1, by decide, h1⟩
  by_cases h2 : k = 2
  · exact ⟨2, by decide, h2⟩
  by_cases h3 : k = 3
  · exact ⟨3, by decide, h3⟩
  by_cases h4 : k = 4
  · exact ⟨4, by decide, h4⟩
  by_cases h5 : k = 5
  · exact ⟨5, by decide, h5⟩
  by_cases h6 : k = 6
  · exact ⟨6, by decide, h6⟩
  by_cases h7 : k = 7
  · exact ⟨7, by decide, h7⟩
  by_cases h8 : k = 8
  · exact ⟨8, by decide, h8⟩
  by_cases h9 : k = 9
  · exact ⟨9, by decide, h9⟩
  by_cases h10 : k = 10
  · exact ⟨10, by decide, h10⟩
  by_cases h11 : k = 11
  · exact ⟨11, by decide, h11⟩
  by_cases h12 : k = 12
  · exact ⟨12, by decide, h12⟩
  by_cases h13 : k = 13
  · exact ⟨13, by decide, h13⟩
  exfalso
  simp only [mbP, h0, h1, h2, h3, h4, h5, h6, h7, h8, h9, h10, h11, h12, h13, or_self, if_false] at h
def PR (I : pI) : Prop := ∀ i, i < 40 → mbP (I 65 (4 * i)) (I 65 (4 * i + 1)) (I 65 (4 * i + 2)) (I 65 (4 * i + 3))
theorem frI_o {I : pI} {p q a k : Nat} (h1 : a ≠ 69) (h2 : a ≠ 70) (h3 : a ≠ 71) (h4 : a ≠ 72) : frI I p q a k = I a k := by
  unfold frI; repeat' split
  all_goals simp [upI_a h1, upI_a h2, upI_a h3, upI_a h4]
theorem frI_pl {I : pI} {p q : Nat} (hP : PR I) (hq : q < 40) : ∃ q', q' ≤ 40 ∧ frI I p q 69 p = nI q' := by
  have hm := hP q hq
  have h39 : ∀ x : Int32, isPl x → ∃ q', q' ≤ 40 ∧ x = nI q' := fun x hx => by
    obtain ⟨v, hv, e⟩ := nI_of2 (M := 39) (n := 39) (by decide) (Int32.not_lt.mpr hx.1) hx.2
    exact ⟨v, by omega, e⟩
  unfold frI
  split
  · exact ⟨q + 1, by omega, upI_s _ _ _ _⟩
  split
  · exact ⟨q + 1, by omega, upI_s _ _ _ _⟩
  split
  · exact ⟨q + 1, by omega, upI_s _ _ _ _⟩
  split
  · rename_i e
    rw [e] at hm
    simp (decide := true) only [mbP, if_true, if_false] at hm
    rw [upI_s]
    split
    · exact h39 _ hm.2.2
    · exact ⟨q + 1, by omega, rfl⟩
  split
  · rename_i e
    rw [e] at hm
    simp (decide := true) only [mbP, if_true, if_false] at hm
    rw [upI_s]
    split
    · exact h39 _ hm.2.2
    · exact ⟨q + 1, by omega, rfl⟩
  split
  · rename_i e
    rw [e] at hm
    simp (decide := true) only [mbP, if_true, if_false] at hm
    rw [upI_s]
    exact h39 _ hm
  split
  · exact ⟨q + 1, by omega, upI_s _ _ _ _⟩
  · exact ⟨q + 1, by omega, upI_s _ _ _ _⟩
theorem RG_up {I : pI} {p j : Nat} {x : Int32} (hR : RG I p) (hx : ∃ v, v ≤ 15 ∧ x = nI v) : RG (upI I 70 j x) p := by
  intro r hr
  by_cases h : 6 * p + r = j
  · subst h; rw [upI_s]; exact hx
  · rw [upI_k h]; exact hR r hr
theorem RG_o {I : pI} {p a j : Nat} {x : Int32} (h : a ≠ 70) (hR : RG I p) : RG (upI I a j x) p := by
  intro r hr; rw [upI_a (fun z => h z.symm)]; exact hR r hr
theorem RG_at {I : pI} {p : Nat} {x : Int32} (hR : RG I p) (hx : isR x) : ∃ v, v ≤ 15 ∧ I 70 (6 * p + x.toNatClampNeg) = nI v := by
  obtain ⟨a, ha, rfl⟩ := of_R hx
  rw [nI_clamp (by omega)]; exact hR a (by omega)
theorem frI_RG {I : pI} {p q : Nat} (hP : PR I) (hq : q < 40) (hR : RG I p) : RG (frI I p q) p := by
  have hm := hP q hq
  have h15 : ∀ x : Int32, 0 ≤ x ∧ x ≤ 15 → ∃ v, v ≤ 15 ∧ x = nI v := fun x hx => nI_of2 (M := 15) (n := 15) (by decide) (Int32.not_lt.mpr hx.1) hx.2
  unfold frI
  split
  · rename_i e
    rw [e] at hm
    simp (decide := true) only [mbP, if_true, if_false] at hm
    exact RG_o (by decide) (RG_up hR (h15 _ hm.2))
  split
  · rename_i e
    rw [e] at hm
    simp (decide := true) only [mbP, if_true, if_false] at hm
    refine RG_o (by decide) (RG_up hR ?_)
    obtain ⟨u, hu, eu⟩ := RG_at hR hm.1
    obtain ⟨v, hv, ev⟩ := h15 _ hm.2
    rw [eu, ev, nI_add, show (16 : Int32) = nI 16 by decide, pk_rem (by omega) (by decide) (by decide)]
    exact ⟨_, by omega, rfl⟩
  split
  · rename_i e
    rw [e] at hm
    simp (decide := true) only [mbP, if_true, if_false] at hm
    exact RG_o (by decide) (RG_up hR (RG_at hR hm.2))
  repeat' split
  all_goals first | exact RG_o (by decide) hR | exact RG_o (by decide) (RG_o (by decide) (RG_o (by decide) hR))
def erW (I : pI) (p b c : Nat) : pI := if b = 0 then erL p c 0 (erA I p) else erA I p
theorem r_enterW {p b c : Nat} (I : pI) (J : pJ) (hb : b = 0 ∨ b = 8) (hp : p < 6) (hc : c ≤ 3) (hI : I 64 2 = nI c) : pMet yX6_enter (pws yX6_enter cX6_enter 4 none) { frames := 0, cells := 0, slots := 0, locals := 0 } [.ref 64, .int (nI p), .int (nI b)] 84 I J pRs (pOv (fun I' J' => I' = erW I p b c ∧ J' = J)) := by
  rcases hb with rfl | rfl
  · exact r_enter I J hp hc hI
  · exact r_enter8 I J hp
/-- one round of the reference's walk; X: what it comes to behind a free instruction -/
def wkH (I : pI) (p b c : Nat) (X : pI) : pI :=
  if 40 ≤ I 69 p then upI I 68 p 4
  else if I 65 (4 * (I 69 p).toNatClampNeg) = 13 then upI (reI I p) 71 p 0
  else if I 65 (4 * (I 69 p).toNatClampNeg) = 12 ∧ I 68 p = 1 then erW I p b c
  else if 6 < I 65 (4 * (I 69 p).toNatClampNeg) ∧ I 65 (4 * (I 69 p).toNatClampNeg) < 12 then srI I p (I 69 p).toNatClampNeg b
  else X
def wkL (p b c : Nat) : Nat → pI → pI
  | 0, I => wkH I p b c (upI I 68 p 4)
  | m + 1, I => wkH I p b c (wkL p b c m (frI I p (I 69 p).toNatClampNeg))
def wkI (I : pI) (p b c : Nat) : pI := wkL p b c 60 (upI I 73 p (I 73 p + 1))
abbrev m_X6_walk : pT := (yX6_walk.cls, cX6_walk, 5, none, { frames := 1, cells := 0, slots := 0, locals := 30 }, [], none)
theorem i6 {x : Int32} (h : ¬ x ≤ 6) : 7 ≤ x := by
  rw [Int32.le_iff_toInt_le]
  have h1 : ¬ x.toInt ≤ (6 : Int32).toInt := fun z => h (Int32.le_iff_toInt_le.mpr z)
  have h2 : (6 : Int32).toInt = 6 := by decide
  have h3 : (7 : Int32).toInt = 7 := by decide
  omega
theorem i12 {x : Int32} (h : ¬ 12 ≤ x) : x ≤ 11 := by
  rw [Int32.le_iff_toInt_le]
  have h1 : ¬ (12 : Int32).toInt ≤ x.toInt := fun z => h (Int32.le_iff_toInt_le.mpr z)
  have h2 : (12 : Int32).toInt = 12 := by decide
  have h3 : (11 : Int32).toInt = 11 := by decide
  omega
set_option maxRecDepth 100000 in
set_option maxHeartbeats 4000000 in
theorem l_walk {p b c : Nat} (hb : b = 0 ∨ b = 8) (hp : p < 6) (hc : c ≤ 3) (J : pJ) (Q : pQ) : ∀ (m d : Nat) (I : pI), d + m = 60 → PR I → (∃ q, q ≤ 40 ∧ I 69 p = nI q) → RG I p → I 64 2 = nI c → Q (.inl none) 84 (wkL p b c m I) J pRs → PW m_X6_walk Q 12 [(0, .ref 64), (1, .int (nI p)), (2, .int (nI b)), (3, .int (nI d))] [] 84 I J pRs 0 0 := by
  intro m
  induction m with
  | zero =>
    intro d I hdm hPR hpl hR hI hQ
    obtain ⟨q, hq40, hq⟩ := hpl
    refine pw_aload_n dX6_walk_12 rfl ?_
    refine pw_getr dX6_walk_13 fl_X6_29 rfl rfl (by decide) (by decide) rfl ?_
    refine pw_iload_n dX6_walk_16 rfl ?_
    refine pw_iald dX6_walk_17 rfl (by decide) (by decide) (vp_in_nI (by omega) (by decide)) ?_
    rw [nI_clamp (show p < 2 ^ 31 by omega)]
    refine pw_bipush (v := 40) dX6_walk_18 (by decide) ?_
    refine pw_icmp_ge (tgt := 39) dX6_walk_20 (by decide) (fun h20 => ?_) (fun h20 => ?_)
    · refine pw_iconst (v := (-1)) dX6_walk_39 (by decide) ?_
      refine pw_istore dX6_walk_40 (by decide) ?_
      refine pw_iload dX6_walk_42 rfl ?_
      refine pw_if_ge (tgt := 55) dX6_walk_44 (by decide) (fun h44 => ?_) (fun h44 => ?_)
      · exact absurd h44 (by decide)
      · refine pw_aload_n dX6_walk_47 rfl ?_
        refine pw_getr dX6_walk_48 fl_X6_26 rfl rfl (by decide) (by decide) rfl ?_
        refine pw_iload_n dX6_walk_51 rfl ?_
        refine pw_iconst (v := 4) dX6_walk_52 (by decide) ?_
        refine pw_iast dX6_walk_53 rfl (by decide) (by decide) (vp_in_nI (by omega) (by decide)) ?_
        rw [nI_clamp (show p < 2 ^ 31 by omega)]
        refine pw_vret dX6_walk_54 rfl (by decide) (by decide) ?_
        rw [wkL, wkH, if_pos h20] at hQ
        exact hQ
    · have hq2 : q < 40 := by
        rw [hq] at h20
        exact Nat.lt_of_not_le (fun z => h20 (nI_le (a := 40) z (by omega)))
      have e8 : (I 69 p).toNatClampNeg = q := by rw [hq, nI_clamp (by omega)]
      obtain ⟨v, hv, ev⟩ := mb_k (hPR q hq2)
      refine pw_aload_n dX6_walk_23 rfl ?_
      refine pw_getr dX6_walk_24 fl_X6_16 rfl rfl (by decide) (by decide) rfl ?_
      refine pw_iconst (v := 4) dX6_walk_27 (by decide) ?_
      refine pw_aload_n dX6_walk_28 rfl ?_
      refine pw_getr dX6_walk_29 fl_X6_29 rfl rfl (by decide) (by decide) rfl ?_
      refine pw_iload_n dX6_walk_32 rfl ?_
      refine pw_iald dX6_walk_33 rfl (by decide) (by decide) (vp_in_nI (by omega) (by decide)) ?_
      rw [nI_clamp (show p < 2 ^ 31 by omega)]
      rw [hq]
      refine pw_imul dX6_walk_34 ?_
      rw [show (4 : Int32) * nI q = nI (4 * q) by rw [show (4 : Int32) = nI 4 by decide, pk_mul]]
      refine pw_iald dX6_walk_35 rfl (by decide) (by decide) (vp_in_nI (by omega) (by decide)) ?_
      rw [nI_clamp (show 4 * q < 2 ^ 31 by omega)]
      refine pw_goto (tgt := 40) dX6_walk_36 (by decide) ?_
      refine pw_istore dX6_walk_40 (by decide) ?_
      refine pw_iload dX6_walk_42 rfl ?_
      refine pw_if_ge (tgt := 55) dX6_walk_44 (by decide) (fun h44_1 => ?_) (fun h44_1 => ?_)
      · refine pw_iload dX6_walk_55 rfl ?_
        refine pw_bipush (v := 13) dX6_walk_57 (by decide) ?_
        refine pw_icmp_ne (tgt := 75) dX6_walk_59 (by decide) (fun h59 => ?_) (fun h59 => ?_)
        · refine pw_iload dX6_walk_75 rfl ?_
          refine pw_bipush (v := 12) dX6_walk_77 (by decide) ?_
          refine pw_icmp_ne (tgt := 99) dX6_walk_79 (by decide) (fun h79 => ?_) (fun h79 => ?_)
          · refine pw_iload dX6_walk_99 rfl ?_
            refine pw_bipush (v := 6) dX6_walk_101 (by decide) ?_
            refine pw_icmp_le (tgt := 120) dX6_walk_103 (by decide) (fun h103 => ?_) (fun h103 => ?_)
            · refine pw_iload_n dX6_walk_120 rfl ?_
              refine pw_bipush (v := 60) dX6_walk_121 (by decide) ?_
              refine pw_icmp_ne (tgt := 134) dX6_walk_123 (by decide) (fun h123 => ?_) (fun h123 => ?_)
              · exact absurd (show nI d = 60 by rw [show d = 60 by omega]; rfl) h123
              · refine pw_aload_n dX6_walk_126 rfl ?_
                refine pw_getr dX6_walk_127 fl_X6_26 rfl rfl (by decide) (by decide) rfl ?_
                refine pw_iload_n dX6_walk_130 rfl ?_
                refine pw_iconst (v := 4) dX6_walk_131 (by decide) ?_
                refine pw_iast dX6_walk_132 rfl (by decide) (by decide) (vp_in_nI (by omega) (by decide)) ?_
                rw [nI_clamp (show p < 2 ^ 31 by omega)]
                refine pw_vret dX6_walk_133 rfl (by decide) (by decide) ?_
                rw [wkL, wkH, if_neg h20, e8, if_neg h59, if_neg (fun z => h79 z.1), if_neg (fun z => absurd z.1 (Int32.not_lt.mpr h103))] at hQ
                exact hQ
            · refine pw_iload dX6_walk_106 rfl ?_
              refine pw_bipush (v := 12) dX6_walk_108 (by decide) ?_
              refine pw_icmp_ge (tgt := 120) dX6_walk_110 (by decide) (fun h110 => ?_) (fun h110 => ?_)
              · refine pw_iload_n dX6_walk_120 rfl ?_
                refine pw_bipush (v := 60) dX6_walk_121 (by decide) ?_
                refine pw_icmp_ne (tgt := 134) dX6_walk_123 (by decide) (fun h123_1 => ?_) (fun h123_1 => ?_)
                · exact absurd (show nI d = 60 by rw [show d = 60 by omega]; rfl) h123_1
                · refine pw_aload_n dX6_walk_126 rfl ?_
                  refine pw_getr dX6_walk_127 fl_X6_26 rfl rfl (by decide) (by decide) rfl ?_
                  refine pw_iload_n dX6_walk_130 rfl ?_
                  refine pw_iconst (v := 4) dX6_walk_131 (by decide) ?_
                  refine pw_iast dX6_walk_132 rfl (by decide) (by decide) (vp_in_nI (by omega) (by decide)) ?_
                  rw [nI_clamp (show p < 2 ^ 31 by omega)]
                  refine pw_vret dX6_walk_133 rfl (by decide) (by decide) ?_
                  rw [wkL, wkH, if_neg h20, e8, if_neg h59, if_neg (fun z => h79 z.1), if_neg (fun z => absurd z.2 (Int32.not_lt.mpr h110))] at hQ
                  exact hQ
              · refine pw_aload_n dX6_walk_113 rfl ?_
                refine pw_iload_n dX6_walk_114 rfl ?_
                refine pw_iload_n dX6_walk_115 rfl ?_
                refine pw_cVv (ci := 6) (y := yX6_share) (cc := cX6_share) (nL := 11) (ret := none) (rm := { frames := 0, cells := 0, slots := 0, locals := 0 }) dX6_walk_116 (r_share _ _ hp hq2 hq hR (i6 h103) (i12 h110) (hPR q hq2) (by omega)) w_X6_131 rfl (by decide) rfl ⟨by decide, by decide⟩ (by decide) (by decide) rfl (Nat.le_of_ble_eq_true rfl) (fun I116 J116 q116 => ?_)
                obtain ⟨rfl, rfl⟩ := rvv q116
                refine pw_vret dX6_walk_119 rfl (by decide) (by decide) ?_
                rw [wkL, wkH, if_neg h20, e8, if_neg h59, if_neg (fun z => h79 z.1), if_pos ⟨Int32.not_le.mp h103, Int32.not_le.mp h110⟩] at hQ
                exact hQ
          · refine pw_aload_n dX6_walk_82 rfl ?_
            refine pw_getr dX6_walk_83 fl_X6_26 rfl rfl (by decide) (by decide) rfl ?_
            refine pw_iload_n dX6_walk_86 rfl ?_
            refine pw_iald dX6_walk_87 rfl (by decide) (by decide) (vp_in_nI (by omega) (by decide)) ?_
            rw [nI_clamp (show p < 2 ^ 31 by omega)]
            refine pw_iconst (v := 1) dX6_walk_88 (by decide) ?_
            refine pw_icmp_ne (tgt := 99) dX6_walk_89 (by decide) (fun h89 => ?_) (fun h89 => ?_)
            · refine pw_iload dX6_walk_99 rfl ?_
              refine pw_bipush (v := 6) dX6_walk_101 (by decide) ?_
              refine pw_icmp_le (tgt := 120) dX6_walk_103 (by decide) (fun h103_1 => ?_) (fun h103_1 => ?_)
              · refine pw_iload_n dX6_walk_120 rfl ?_
                refine pw_bipush (v := 60) dX6_walk_121 (by decide) ?_
                refine pw_icmp_ne (tgt := 134) dX6_walk_123 (by decide) (fun h123_2 => ?_) (fun h123_2 => ?_)
                · exact absurd (show nI d = 60 by rw [show d = 60 by omega]; rfl) h123_2
                · refine pw_aload_n dX6_walk_126 rfl ?_
                  refine pw_getr dX6_walk_127 fl_X6_26 rfl rfl (by decide) (by decide) rfl ?_
                  refine pw_iload_n dX6_walk_130 rfl ?_
                  refine pw_iconst (v := 4) dX6_walk_131 (by decide) ?_
                  refine pw_iast dX6_walk_132 rfl (by decide) (by decide) (vp_in_nI (by omega) (by decide)) ?_
                  rw [nI_clamp (show p < 2 ^ 31 by omega)]
                  refine pw_vret dX6_walk_133 rfl (by decide) (by decide) ?_
                  rw [wkL, wkH, if_neg h20, e8, if_neg h59, if_neg (fun z => h89 z.2), if_neg (fun z => absurd z.1 (Int32.not_lt.mpr h103_1))] at hQ
                  exact hQ
              · refine pw_iload dX6_walk_106 rfl ?_
                refine pw_bipush (v := 12) dX6_walk_108 (by decide) ?_
                refine pw_icmp_ge (tgt := 120) dX6_walk_110 (by decide) (fun h110_1 => ?_) (fun h110_1 => ?_)
                · refine pw_iload_n dX6_walk_120 rfl ?_
                  refine pw_bipush (v := 60) dX6_walk_121 (by decide) ?_
                  refine pw_icmp_ne (tgt := 134) dX6_walk_123 (by decide) (fun h123_3 => ?_) (fun h123_3 => ?_)
                  · exact absurd (show nI d = 60 by rw [show d = 60 by omega]; rfl) h123_3
                  · refine pw_aload_n dX6_walk_126 rfl ?_
                    refine pw_getr dX6_walk_127 fl_X6_26 rfl rfl (by decide) (by decide) rfl ?_
                    refine pw_iload_n dX6_walk_130 rfl ?_
                    refine pw_iconst (v := 4) dX6_walk_131 (by decide) ?_
                    refine pw_iast dX6_walk_132 rfl (by decide) (by decide) (vp_in_nI (by omega) (by decide)) ?_
                    rw [nI_clamp (show p < 2 ^ 31 by omega)]
                    refine pw_vret dX6_walk_133 rfl (by decide) (by decide) ?_
                    rw [wkL, wkH, if_neg h20, e8, if_neg h59, if_neg (fun z => h89 z.2), if_neg (fun z => absurd z.2 (Int32.not_lt.mpr h110_1))] at hQ
                    exact hQ
                · refine pw_aload_n dX6_walk_113 rfl ?_
                  refine pw_iload_n dX6_walk_114 rfl ?_
                  refine pw_iload_n dX6_walk_115 rfl ?_
                  refine pw_cVv (ci := 6) (y := yX6_share) (cc := cX6_share) (nL := 11) (ret := none) (rm := { frames := 0, cells := 0, slots := 0, locals := 0 }) dX6_walk_116 (r_share _ _ hp hq2 hq hR (i6 h103_1) (i12 h110_1) (hPR q hq2) (by omega)) w_X6_131 rfl (by decide) rfl ⟨by decide, by decide⟩ (by decide) (by decide) rfl (Nat.le_of_ble_eq_true rfl) (fun I116_1 J116_1 q116_1 => ?_)
                  obtain ⟨rfl, rfl⟩ := rvv q116_1
                  refine pw_vret dX6_walk_119 rfl (by decide) (by decide) ?_
                  rw [wkL, wkH, if_neg h20, e8, if_neg h59, if_neg (fun z => h89 z.2), if_pos ⟨Int32.not_le.mp h103_1, Int32.not_le.mp h110_1⟩] at hQ
                  exact hQ
            · refine pw_aload_n dX6_walk_92 rfl ?_
              refine pw_iload_n dX6_walk_93 rfl ?_
              refine pw_iload_n dX6_walk_94 rfl ?_
              refine pw_cVv (ci := 6) (y := yX6_enter) (cc := cX6_enter) (nL := 4) (ret := none) (rm := { frames := 0, cells := 0, slots := 0, locals := 0 }) dX6_walk_95 (r_enterW _ _ hb hp hc hI) w_X6_127 rfl (by decide) rfl ⟨by decide, by decide⟩ (by decide) (by decide) rfl (Nat.le_of_ble_eq_true rfl) (fun I95 J95 q95 => ?_)
              obtain ⟨rfl, rfl⟩ := rvv q95
              refine pw_vret dX6_walk_98 rfl (by decide) (by decide) ?_
              rw [wkL, wkH, if_neg h20, e8, if_neg h59, if_pos ⟨h79, h89⟩] at hQ
              exact hQ
        · refine pw_aload_n dX6_walk_62 rfl ?_
          refine pw_iload_n dX6_walk_63 rfl ?_
          refine pw_cVv (ci := 6) (y := yX6_rest) (cc := cX6_rest) (nL := 3) (ret := none) (rm := { frames := 0, cells := 0, slots := 0, locals := 0 }) dX6_walk_64 (r_rest _ _ hp) w_X6_113 rfl (by decide) rfl ⟨by decide, by decide⟩ (by decide) (by decide) rfl (Nat.le_of_ble_eq_true rfl) (fun I64 J64 q64 => ?_)
          obtain ⟨rfl, rfl⟩ := rvv q64
          refine pw_aload_n dX6_walk_67 rfl ?_
          refine pw_getr dX6_walk_68 fl_X6_35 rfl rfl (by decide) (by decide) rfl ?_
          refine pw_iload_n dX6_walk_71 rfl ?_
          refine pw_iconst (v := 0) dX6_walk_72 (by decide) ?_
          refine pw_zast dX6_walk_73 rfl (by decide) (by decide) (vp_in_nI (by omega) (by decide)) rfl ?_
          rw [nI_clamp (show p < 2 ^ 31 by omega)]
          refine pw_vret dX6_walk_74 rfl (by decide) (by decide) ?_
          rw [wkL, wkH, if_neg h20, e8, if_pos h59] at hQ
          exact hQ
      · exact absurd (by rw [ev]; exact nI_pos' (by omega)) h44_1
  | succ m ih =>
    intro d I hdm hPR hpl hR hI hQ
    obtain ⟨q, hq40, hq⟩ := hpl
    refine pw_aload_n dX6_walk_12 rfl ?_
    refine pw_getr dX6_walk_13 fl_X6_29 rfl rfl (by decide) (by decide) rfl ?_
    refine pw_iload_n dX6_walk_16 rfl ?_
    refine pw_iald dX6_walk_17 rfl (by decide) (by decide) (vp_in_nI (by omega) (by decide)) ?_
    rw [nI_clamp (show p < 2 ^ 31 by omega)]
    refine pw_bipush (v := 40) dX6_walk_18 (by decide) ?_
    refine pw_icmp_ge (tgt := 39) dX6_walk_20 (by decide) (fun h20 => ?_) (fun h20 => ?_)
    · refine pw_iconst (v := (-1)) dX6_walk_39 (by decide) ?_
      refine pw_istore dX6_walk_40 (by decide) ?_
      refine pw_iload dX6_walk_42 rfl ?_
      refine pw_if_ge (tgt := 55) dX6_walk_44 (by decide) (fun h44 => ?_) (fun h44 => ?_)
      · exact absurd h44 (by decide)
      · refine pw_aload_n dX6_walk_47 rfl ?_
        refine pw_getr dX6_walk_48 fl_X6_26 rfl rfl (by decide) (by decide) rfl ?_
        refine pw_iload_n dX6_walk_51 rfl ?_
        refine pw_iconst (v := 4) dX6_walk_52 (by decide) ?_
        refine pw_iast dX6_walk_53 rfl (by decide) (by decide) (vp_in_nI (by omega) (by decide)) ?_
        rw [nI_clamp (show p < 2 ^ 31 by omega)]
        refine pw_vret dX6_walk_54 rfl (by decide) (by decide) ?_
        rw [wkL, wkH, if_pos h20] at hQ
        exact hQ
    · have hq2 : q < 40 := by
        rw [hq] at h20
        exact Nat.lt_of_not_le (fun z => h20 (nI_le (a := 40) z (by omega)))
      have e8 : (I 69 p).toNatClampNeg = q := by rw [hq, nI_clamp (by omega)]
      obtain ⟨v, hv, ev⟩ := mb_k (hPR q hq2)
      refine pw_aload_n dX6_walk_23 rfl ?_
      refine pw_getr dX6_walk_24 fl_X6_16 rfl rfl (by decide) (by decide) rfl ?_
      refine pw_iconst (v := 4) dX6_walk_27 (by decide) ?_
      refine pw_aload_n dX6_walk_28 rfl ?_
      refine pw_getr dX6_walk_29 fl_X6_29 rfl rfl (by decide) (by decide) rfl ?_
      refine pw_iload_n dX6_walk_32 rfl ?_
      refine pw_iald dX6_walk_33 rfl (by decide) (by decide) (vp_in_nI (by omega) (by decide)) ?_
      rw [nI_clamp (show p < 2 ^ 31 by omega)]
      rw [hq]
      refine pw_imul dX6_walk_34 ?_
      rw [show (4 : Int32) * nI q = nI (4 * q) by rw [show (4 : Int32) = nI 4 by decide, pk_mul]]
      refine pw_iald dX6_walk_35 rfl (by decide) (by decide) (vp_in_nI (by omega) (by decide)) ?_
      rw [nI_clamp (show 4 * q < 2 ^ 31 by omega)]
      refine pw_goto (tgt := 40) dX6_walk_36 (by decide) ?_
      refine pw_istore dX6_walk_40 (by decide) ?_
      refine pw_iload dX6_walk_42 rfl ?_
      refine pw_if_ge (tgt := 55) dX6_walk_44 (by decide) (fun h44_1 => ?_) (fun h44_1 => ?_)
      · refine pw_iload dX6_walk_55 rfl ?_
        refine pw_bipush (v := 13) dX6_walk_57 (by decide) ?_
        refine pw_icmp_ne (tgt := 75) dX6_walk_59 (by decide) (fun h59 => ?_) (fun h59 => ?_)
        · refine pw_iload dX6_walk_75 rfl ?_
          refine pw_bipush (v := 12) dX6_walk_77 (by decide) ?_
          refine pw_icmp_ne (tgt := 99) dX6_walk_79 (by decide) (fun h79 => ?_) (fun h79 => ?_)
          · refine pw_iload dX6_walk_99 rfl ?_
            refine pw_bipush (v := 6) dX6_walk_101 (by decide) ?_
            refine pw_icmp_le (tgt := 120) dX6_walk_103 (by decide) (fun h103 => ?_) (fun h103 => ?_)
            · refine pw_iload_n dX6_walk_120 rfl ?_
              refine pw_bipush (v := 60) dX6_walk_121 (by decide) ?_
              refine pw_icmp_ne (tgt := 134) dX6_walk_123 (by decide) (fun h123 => ?_) (fun h123 => ?_)
              · refine pw_aload_n dX6_walk_134 rfl ?_
                refine pw_iload_n dX6_walk_135 rfl ?_
                refine pw_cVv (ci := 6) (y := yX6_free) (cc := cX6_free) (nL := 7) (ret := none) (rm := { frames := 0, cells := 0, slots := 0, locals := 0 }) dX6_walk_136 (r_free _ _ hp hq2 hq (hPR q hq2)) w_X6_134 rfl (by decide) rfl ⟨by decide, by decide⟩ (by decide) (by decide) rfl (Nat.le_of_ble_eq_true rfl) (fun I136 J136 q136 => ?_)
                obtain ⟨rfl, rfl⟩ := rvv q136
                refine pw_iinc (v := nI (d + 1)) dX6_walk_139 rfl (by rw [nI_succ]; rfl) (by decide) ?_
                refine pw_goto (tgt := 12) dX6_walk_142 (by decide) ?_
                refine pw_loc (L' := [(0, .ref 64), (1, .int (nI p)), (2, .int (nI b)), (3, .int (nI (d + 1)))]) rfl ?_
                rw [wkL, wkH, if_neg h20, e8, if_neg h59, if_neg (fun z => h79 z.1), if_neg (fun z => absurd z.1 (Int32.not_lt.mpr h103))] at hQ
                exact ih (d + 1) _ (by omega) (fun i hi => by rw [frI_o (by decide) (by decide) (by decide) (by decide), frI_o (by decide) (by decide) (by decide) (by decide), frI_o (by decide) (by decide) (by decide) (by decide), frI_o (by decide) (by decide) (by decide) (by decide)]; exact hPR i hi) (frI_pl hPR hq2) (frI_RG hPR hq2 hR) (by rw [frI_o (by decide) (by decide) (by decide) (by decide)]; exact hI) hQ
              · exact absurd ((nI_eq (b := 60) (by omega) (by decide)).mp h123) (by omega)
            · refine pw_iload dX6_walk_106 rfl ?_
              refine pw_bipush (v := 12) dX6_walk_108 (by decide) ?_
              refine pw_icmp_ge (tgt := 120) dX6_walk_110 (by decide) (fun h110 => ?_) (fun h110 => ?_)
              · refine pw_iload_n dX6_walk_120 rfl ?_
                refine pw_bipush (v := 60) dX6_walk_121 (by decide) ?_
                refine pw_icmp_ne (tgt := 134) dX6_walk_123 (by decide) (fun h123_1 => ?_) (fun h123_1 => ?_)
                · refine pw_aload_n dX6_walk_134 rfl ?_
                  refine pw_iload_n dX6_walk_135 rfl ?_
                  refine pw_cVv (ci := 6) (y := yX6_free) (cc := cX6_free) (nL := 7) (ret := none) (rm := { frames := 0, cells := 0, slots := 0, locals := 0 }) dX6_walk_136 (r_free _ _ hp hq2 hq (hPR q hq2)) w_X6_134 rfl (by decide) rfl ⟨by decide, by decide⟩ (by decide) (by decide) rfl (Nat.le_of_ble_eq_true rfl) (fun I136_1 J136_1 q136_1 => ?_)
                  obtain ⟨rfl, rfl⟩ := rvv q136_1
                  refine pw_iinc (v := nI (d + 1)) dX6_walk_139 rfl (by rw [nI_succ]; rfl) (by decide) ?_
                  refine pw_goto (tgt := 12) dX6_walk_142 (by decide) ?_
                  refine pw_loc (L' := [(0, .ref 64), (1, .int (nI p)), (2, .int (nI b)), (3, .int (nI (d + 1)))]) rfl ?_
                  rw [wkL, wkH, if_neg h20, e8, if_neg h59, if_neg (fun z => h79 z.1), if_neg (fun z => absurd z.2 (Int32.not_lt.mpr h110))] at hQ
                  exact ih (d + 1) _ (by omega) (fun i hi => by rw [frI_o (by decide) (by decide) (by decide) (by decide), frI_o (by decide) (by decide) (by decide) (by decide), frI_o (by decide) (by decide) (by decide) (by decide), frI_o (by decide) (by decide) (by decide) (by decide)]; exact hPR i hi) (frI_pl hPR hq2) (frI_RG hPR hq2 hR) (by rw [frI_o (by decide) (by decide) (by decide) (by decide)]; exact hI) hQ
                · exact absurd ((nI_eq (b := 60) (by omega) (by decide)).mp h123_1) (by omega)
              · refine pw_aload_n dX6_walk_113 rfl ?_
                refine pw_iload_n dX6_walk_114 rfl ?_
                refine pw_iload_n dX6_walk_115 rfl ?_
                refine pw_cVv (ci := 6) (y := yX6_share) (cc := cX6_share) (nL := 11) (ret := none) (rm := { frames := 0, cells := 0, slots := 0, locals := 0 }) dX6_walk_116 (r_share _ _ hp hq2 hq hR (i6 h103) (i12 h110) (hPR q hq2) (by omega)) w_X6_131 rfl (by decide) rfl ⟨by decide, by decide⟩ (by decide) (by decide) rfl (Nat.le_of_ble_eq_true rfl) (fun I116 J116 q116 => ?_)
                obtain ⟨rfl, rfl⟩ := rvv q116
                refine pw_vret dX6_walk_119 rfl (by decide) (by decide) ?_
                rw [wkL, wkH, if_neg h20, e8, if_neg h59, if_neg (fun z => h79 z.1), if_pos ⟨Int32.not_le.mp h103, Int32.not_le.mp h110⟩] at hQ
                exact hQ
          · refine pw_aload_n dX6_walk_82 rfl ?_
            refine pw_getr dX6_walk_83 fl_X6_26 rfl rfl (by decide) (by decide) rfl ?_
            refine pw_iload_n dX6_walk_86 rfl ?_
            refine pw_iald dX6_walk_87 rfl (by decide) (by decide) (vp_in_nI (by omega) (by decide)) ?_
            rw [nI_clamp (show p < 2 ^ 31 by omega)]
            refine pw_iconst (v := 1) dX6_walk_88 (by decide) ?_
            refine pw_icmp_ne (tgt := 99) dX6_walk_89 (by decide) (fun h89 => ?_) (fun h89 => ?_)
            · refine pw_iload dX6_walk_99 rfl ?_
              refine pw_bipush (v := 6) dX6_walk_101 (by decide) ?_
              refine pw_icmp_le (tgt := 120) dX6_walk_103 (by decide) (fun h103_1 => ?_) (fun h103_1 => ?_)
              · refine pw_iload_n dX6_walk_120 rfl ?_
                refine pw_bipush (v := 60) dX6_walk_121 (by decide) ?_
                refine pw_icmp_ne (tgt := 134) dX6_walk_123 (by decide) (fun h123_2 => ?_) (fun h123_2 => ?_)
                · refine pw_aload_n dX6_walk_134 rfl ?_
                  refine pw_iload_n dX6_walk_135 rfl ?_
                  refine pw_cVv (ci := 6) (y := yX6_free) (cc := cX6_free) (nL := 7) (ret := none) (rm := { frames := 0, cells := 0, slots := 0, locals := 0 }) dX6_walk_136 (r_free _ _ hp hq2 hq (hPR q hq2)) w_X6_134 rfl (by decide) rfl ⟨by decide, by decide⟩ (by decide) (by decide) rfl (Nat.le_of_ble_eq_true rfl) (fun I136_2 J136_2 q136_2 => ?_)
                  obtain ⟨rfl, rfl⟩ := rvv q136_2
                  refine pw_iinc (v := nI (d + 1)) dX6_walk_139 rfl (by rw [nI_succ]; rfl) (by decide) ?_
                  refine pw_goto (tgt := 12) dX6_walk_142 (by decide) ?_
                  refine pw_loc (L' := [(0, .ref 64), (1, .int (nI p)), (2, .int (nI b)), (3, .int (nI (d + 1)))]) rfl ?_
                  rw [wkL, wkH, if_neg h20, e8, if_neg h59, if_neg (fun z => h89 z.2), if_neg (fun z => absurd z.1 (Int32.not_lt.mpr h103_1))] at hQ
                  exact ih (d + 1) _ (by omega) (fun i hi => by rw [frI_o (by decide) (by decide) (by decide) (by decide), frI_o (by decide) (by decide) (by decide) (by decide), frI_o (by decide) (by decide) (by decide) (by decide), frI_o (by decide) (by decide) (by decide) (by decide)]; exact hPR i hi) (frI_pl hPR hq2) (frI_RG hPR hq2 hR) (by rw [frI_o (by decide) (by decide) (by decide) (by decide)]; exact hI) hQ
                · exact absurd ((nI_eq (b := 60) (by omega) (by decide)).mp h123_2) (by omega)
              · refine pw_iload dX6_walk_106 rfl ?_
                refine pw_bipush (v := 12) dX6_walk_108 (by decide) ?_
                refine pw_icmp_ge (tgt := 120) dX6_walk_110 (by decide) (fun h110_1 => ?_) (fun h110_1 => ?_)
                · refine pw_iload_n dX6_walk_120 rfl ?_
                  refine pw_bipush (v := 60) dX6_walk_121 (by decide) ?_
                  refine pw_icmp_ne (tgt := 134) dX6_walk_123 (by decide) (fun h123_3 => ?_) (fun h123_3 => ?_)
                  · refine pw_aload_n dX6_walk_134 rfl ?_
                    refine pw_iload_n dX6_walk_135 rfl ?_
                    refine pw_cVv (ci := 6) (y := yX6_free) (cc := cX6_free) (nL := 7) (ret := none) (rm := { frames := 0, cells := 0, slots := 0, locals := 0 }) dX6_walk_136 (r_free _ _ hp hq2 hq (hPR q hq2)) w_X6_134 rfl (by decide) rfl ⟨by decide, by decide⟩ (by decide) (by decide) rfl (Nat.le_of_ble_eq_true rfl) (fun I136_3 J136_3 q136_3 => ?_)
                    obtain ⟨rfl, rfl⟩ := rvv q136_3
                    refine pw_iinc (v := nI (d + 1)) dX6_walk_139 rfl (by rw [nI_succ]; rfl) (by decide) ?_
                    refine pw_goto (tgt := 12) dX6_walk_142 (by decide) ?_
                    refine pw_loc (L' := [(0, .ref 64), (1, .int (nI p)), (2, .int (nI b)), (3, .int (nI (d + 1)))]) rfl ?_
                    rw [wkL, wkH, if_neg h20, e8, if_neg h59, if_neg (fun z => h89 z.2), if_neg (fun z => absurd z.2 (Int32.not_lt.mpr h110_1))] at hQ
                    exact ih (d + 1) _ (by omega) (fun i hi => by rw [frI_o (by decide) (by decide) (by decide) (by decide), frI_o (by decide) (by decide) (by decide) (by decide), frI_o (by decide) (by decide) (by decide) (by decide), frI_o (by decide) (by decide) (by decide) (by decide)]; exact hPR i hi) (frI_pl hPR hq2) (frI_RG hPR hq2 hR) (by rw [frI_o (by decide) (by decide) (by decide) (by decide)]; exact hI) hQ
                  · exact absurd ((nI_eq (b := 60) (by omega) (by decide)).mp h123_3) (by omega)
                · refine pw_aload_n dX6_walk_113 rfl ?_
                  refine pw_iload_n dX6_walk_114 rfl ?_
                  refine pw_iload_n dX6_walk_115 rfl ?_
                  refine pw_cVv (ci := 6) (y := yX6_share) (cc := cX6_share) (nL := 11) (ret := none) (rm := { frames := 0, cells := 0, slots := 0, locals := 0 }) dX6_walk_116 (r_share _ _ hp hq2 hq hR (i6 h103_1) (i12 h110_1) (hPR q hq2) (by omega)) w_X6_131 rfl (by decide) rfl ⟨by decide, by decide⟩ (by decide) (by decide) rfl (Nat.le_of_ble_eq_true rfl) (fun I116_1 J116_1 q116_1 => ?_)
                  obtain ⟨rfl, rfl⟩ := rvv q116_1
                  refine pw_vret dX6_walk_119 rfl (by decide) (by decide) ?_
                  rw [wkL, wkH, if_neg h20, e8, if_neg h59, if_neg (fun z => h89 z.2), if_pos ⟨Int32.not_le.mp h103_1, Int32.not_le.mp h110_1⟩] at hQ
                  exact hQ
            · refine pw_aload_n dX6_walk_92 rfl ?_
              refine pw_iload_n dX6_walk_93 rfl ?_
              refine pw_iload_n dX6_walk_94 rfl ?_
              refine pw_cVv (ci := 6) (y := yX6_enter) (cc := cX6_enter) (nL := 4) (ret := none) (rm := { frames := 0, cells := 0, slots := 0, locals := 0 }) dX6_walk_95 (r_enterW _ _ hb hp hc hI) w_X6_127 rfl (by decide) rfl ⟨by decide, by decide⟩ (by decide) (by decide) rfl (Nat.le_of_ble_eq_true rfl) (fun I95 J95 q95 => ?_)
              obtain ⟨rfl, rfl⟩ := rvv q95
              refine pw_vret dX6_walk_98 rfl (by decide) (by decide) ?_
              rw [wkL, wkH, if_neg h20, e8, if_neg h59, if_pos ⟨h79, h89⟩] at hQ
              exact hQ
        · refine pw_aload_n dX6_walk_62 rfl ?_
          refine pw_iload_n dX6_walk_63 rfl ?_
          refine pw_cVv (ci := 6) (y := yX6_rest) (cc := cX6_rest) (nL := 3) (ret := none) (rm := { frames := 0, cells := 0, slots := 0, locals := 0 }) dX6_walk_64 (r_rest _ _ hp) w_X6_113 rfl (by decide) rfl ⟨by decide, by decide⟩ (by decide) (by decide) rfl (Nat.le_of_ble_eq_true rfl) (fun I64 J64 q64 => ?_)
          obtain ⟨rfl, rfl⟩ := rvv q64
          refine pw_aload_n dX6_walk_67 rfl ?_
          refine pw_getr dX6_walk_68 fl_X6_35 rfl rfl (by decide) (by decide) rfl ?_
          refine pw_iload_n dX6_walk_71 rfl ?_
          refine pw_iconst (v := 0) dX6_walk_72 (by decide) ?_
          refine pw_zast dX6_walk_73 rfl (by decide) (by decide) (vp_in_nI (by omega) (by decide)) rfl ?_
          rw [nI_clamp (show p < 2 ^ 31 by omega)]
          refine pw_vret dX6_walk_74 rfl (by decide) (by decide) ?_
          rw [wkL, wkH, if_neg h20, e8, if_pos h59] at hQ
          exact hQ
      · exact absurd (by rw [ev]; exact nI_pos' (by omega)) h44_1
set_option maxRecDepth 100000 in
set_option maxHeartbeats 4000000 in
theorem r_walk {p b c : Nat} (I : pI) (J : pJ) (hb : b = 0 ∨ b = 8) (hp : p < 6) (hc : c ≤ 3) (hPR : PR I) (hpl : ∃ q, q ≤ 40 ∧ I 69 p = nI q) (hR : RG I p) (hI : I 64 2 = nI c) : pMet yX6_walk (pws yX6_walk cX6_walk 5 none) { frames := 1, cells := 0, slots := 0, locals := 30 } [.ref 64, .int (nI p), .int (nI b)] 84 I J pRs (pOv (fun I' J' => I' = wkI I p b c ∧ J' = J)) := by
  refine pMet_of (by decide) (Nat.le_of_ble_eq_true rfl) ?_
  refine pw_aload_n dX6_walk_0 rfl ?_
  refine pw_getr dX6_walk_1 fl_X6_42 rfl rfl (by decide) (by decide) rfl ?_
  refine pw_iload_n dX6_walk_4 rfl ?_
  refine pw_dup2 dX6_walk_5 rfl rfl ?_
  refine pw_iald dX6_walk_6 rfl (by decide) (by decide) (vp_in_nI (by omega) (by decide)) ?_
  rw [nI_clamp (show p < 2 ^ 31 by omega)]
  refine pw_iconst (v := 1) dX6_walk_7 (by decide) ?_
  refine pw_iadd dX6_walk_8 ?_
  refine pw_iast dX6_walk_9 rfl (by decide) (by decide) (vp_in_nI (by omega) (by decide)) ?_
  rw [nI_clamp (show p < 2 ^ 31 by omega)]
  refine pw_iconst (v := 0) dX6_walk_10 (by decide) ?_
  refine pw_istore_n dX6_walk_11 (by decide) ?_
  refine pw_loc (L' := [(0, .ref 64), (1, .int (nI p)), (2, .int (nI b)), (3, .int (nI 0))]) rfl ?_
  exact l_walk hb hp hc J _ 60 0 _ (by decide) (fun i hi => by rw [upI_a (by decide), upI_a (by decide), upI_a (by decide), upI_a (by decide)]; exact hPR i hi) (by rw [upI_a (by decide)]; exact hpl) (RG_o (by decide) hR) (by rw [upI_a (by decide)]; exact hI) ⟨rfl, rfl, rfl, rfl, rfl⟩
def mvR (I : pI) (p b c : Nat) : pI := if I 68 p = 0 then atI I p (if b = 0 then nI p else nI p - 3) else I
def mvS (I : pI) (p : Nat) : pI := if I 68 p = 2 then upI I 68 p 3 else I
def moI (I : pI) (p b c : Nat) : pI := if I 68 p = 4 then I else wkI (mvS (mvR I p b c) p) p b c
theorem atI_o {I : pI} {p a k : Nat} {x : Int32} (h : a < 68 ∨ 73 < a) : atI I p x a k = I a k := by
  unfold atI
  rw [upI_a (by omega), upI_a (by omega), upI_a (by omega), upI_a (by omega), upI_a (by omega), upI_a (by omega), reI_o (by omega) (by omega) (by omega)]
theorem rgZ_in {p : Nat} : ∀ (m r : Nat) (I : pI) (k : Nat), (∃ v, v ≤ 15 ∧ I 70 k = nI v) ∨ (6 * p + r ≤ k ∧ k < 6 * p + r + m) → ∃ v, v ≤ 15 ∧ rgZ p m r I 70 k = nI v := by
  intro m
  induction m with
  | zero => intro r I k h; rcases h with h | h
            · exact h
            · omega
  | succ m ih =>
    intro r I k h
    rw [rgZ]
    apply ih
    by_cases e : k = 6 * p + r
    · exact Or.inl ⟨0, by decide, by rw [e, upI_s]; rfl⟩
    · rcases h with h | h
      · exact Or.inl (by rw [upI_k e]; exact h)
      · exact Or.inr (by omega)
theorem atI_RG {I : pI} {p : Nat} {x : Int32} (hx : ∃ v, v ≤ 15 ∧ x = nI v) (hm : ∃ v, v ≤ 15 ∧ I 64 2 = nI v) : RG (atI I p x) p := by
  unfold atI
  refine RG_o (by decide) (RG_o (by decide) (RG_o (by decide) (RG_up (RG_up (RG_o (by decide) ?_) hx) hm)))
  intro r hr
  exact rgZ_in 6 0 _ _ (Or.inr ⟨by omega, by omega⟩)
theorem atI_pl {I : pI} {p : Nat} {x : Int32} : atI I p x 69 p = nI 0 := by
  unfold atI
  rw [upI_a (by decide), upI_a (by decide), upI_a (by decide), upI_a (by decide), upI_a (by decide), upI_a (by decide), reI, rgZ_o (by decide), upI_s]; rfl
abbrev m_X6_move : pT := (yX6_move.cls, cX6_move, 3, (some .boolean), { frames := 2, cells := 0, slots := 0, locals := 54 }, [], none)
set_option maxRecDepth 100000 in
set_option maxHeartbeats 4000000 in
theorem j_move {p b c : Nat} (X : pI) (J : pJ) (Q : pQ) (hb : b = 0 ∨ b = 8) (hp : p < 6) (hc : c ≤ 3) (hPX : PR X) (hplX : ∃ q, q ≤ 40 ∧ X 69 p = nI q) (hRX : RG X p) (hIX : X 64 2 = nI c) (hQ : Q (.inl (some (.int 1))) 84 (wkI (mvS X p) p b c) J pRs) : PW m_X6_move Q 37 [(0, .ref 64), (1, .int (nI p)), (2, .int (nI b))] [] 84 X J pRs 0 0 := by
  refine pw_aload_n dX6_move_37 rfl ?_
  refine pw_getr dX6_move_38 fl_X6_26 rfl rfl (by decide) (by decide) rfl ?_
  refine pw_iload_n dX6_move_41 rfl ?_
  refine pw_iald dX6_move_42 rfl (by decide) (by decide) (vp_in_nI (by omega) (by decide)) ?_
  rw [nI_clamp (show p < 2 ^ 31 by omega)]
  refine pw_iconst (v := 2) dX6_move_43 (by decide) ?_
  refine pw_icmp_ne (tgt := 54) dX6_move_44 (by decide) (fun h44 => ?_) (fun h44 => ?_)
  · have e9 : mvS X p = X := by rw [mvS, if_neg h44]
    have hP2 := hPX
    have hpl2 := hplX
    have hR2 := hRX
    have hI2 := hIX
    rw [e9] at hQ
    refine pw_aload_n dX6_move_54 rfl ?_
    refine pw_iload_n dX6_move_55 rfl ?_
    refine pw_iload_n dX6_move_56 rfl ?_
    refine pw_cVv (ci := 6) (y := yX6_walk) (cc := cX6_walk) (nL := 5) (ret := none) (rm := { frames := 1, cells := 0, slots := 0, locals := 30 }) dX6_move_57 (r_walk _ _ hb hp hc hP2 hpl2 hR2 hI2) w_X6_143 rfl (by decide) rfl ⟨by decide, by decide⟩ (by decide) (by decide) rfl (Nat.le_of_ble_eq_true rfl) (fun I57 J57 q57 => ?_)
    obtain ⟨rfl, rfl⟩ := rvv q57
    refine pw_iconst (v := 1) dX6_move_60 (by decide) ?_
    refine pw_iret dX6_move_61 rfl rfl (by decide) (by decide) ?_
    exact hQ
  · refine pw_aload_n dX6_move_47 rfl ?_
    refine pw_getr dX6_move_48 fl_X6_26 rfl rfl (by decide) (by decide) rfl ?_
    refine pw_iload_n dX6_move_51 rfl ?_
    refine pw_iconst (v := 3) dX6_move_52 (by decide) ?_
    refine pw_iast dX6_move_53 rfl (by decide) (by decide) (vp_in_nI (by omega) (by decide)) ?_
    rw [nI_clamp (show p < 2 ^ 31 by omega)]
    have e9 : mvS X p = upI X 68 p 3 := by rw [mvS, if_pos h44]
    have hP2 : PR (upI X 68 p 3) := fun i hi => by rw [upI_a (by decide), upI_a (by decide), upI_a (by decide), upI_a (by decide)]; exact hPX i hi
    have hpl2 : ∃ q, q ≤ 40 ∧ upI X 68 p 3 69 p = nI q := by rw [upI_a (by decide)]; exact hplX
    have hR2 : RG (upI X 68 p 3) p := RG_o (by decide) hRX
    have hI2 : upI X 68 p 3 64 2 = nI c := by rw [upI_a (by decide)]; exact hIX
    rw [e9] at hQ
    refine pw_aload_n dX6_move_54 rfl ?_
    refine pw_iload_n dX6_move_55 rfl ?_
    refine pw_iload_n dX6_move_56 rfl ?_
    refine pw_cVv (ci := 6) (y := yX6_walk) (cc := cX6_walk) (nL := 5) (ret := none) (rm := { frames := 1, cells := 0, slots := 0, locals := 30 }) dX6_move_57 (r_walk _ _ hb hp hc hP2 hpl2 hR2 hI2) w_X6_143 rfl (by decide) rfl ⟨by decide, by decide⟩ (by decide) (by decide) rfl (Nat.le_of_ble_eq_true rfl) (fun I57_1 J57_1 q57_1 => ?_)
    obtain ⟨rfl, rfl⟩ := rvv q57_1
    refine pw_iconst (v := 1) dX6_move_60 (by decide) ?_
    refine pw_iret dX6_move_61 rfl rfl (by decide) (by decide) ?_
    exact hQ
set_option maxRecDepth 100000 in
set_option maxHeartbeats 4000000 in
theorem r_move {p b c : Nat} (I : pI) (J : pJ) (hb3 : b = 0 ∨ 3 ≤ p) (hb : b = 0 ∨ b = 8) (hp : p < 6) (hc : c ≤ 3) (hPR : PR I) (hpl : ∃ q, q ≤ 40 ∧ I 69 p = nI q) (hR : RG I p) (hI : I 64 2 = nI c) : pMet yX6_move (pws yX6_move cX6_move 3 (some .boolean)) { frames := 2, cells := 0, slots := 0, locals := 54 } [.ref 64, .int (nI p), .int (nI b)] 84 I J pRs (pOi (fun r I' J' => r = (if I 68 p = 4 then 0 else 1) ∧ I' = moI I p b c ∧ J' = J)) := by
  refine pMet_of (by decide) (Nat.le_of_ble_eq_true rfl) ?_
  refine pw_aload_n dX6_move_0 rfl ?_
  refine pw_getr dX6_move_1 fl_X6_26 rfl rfl (by decide) (by decide) rfl ?_
  refine pw_iload_n dX6_move_4 rfl ?_
  refine pw_iald dX6_move_5 rfl (by decide) (by decide) (vp_in_nI (by omega) (by decide)) ?_
  rw [nI_clamp (show p < 2 ^ 31 by omega)]
  refine pw_iconst (v := 4) dX6_move_6 (by decide) ?_
  refine pw_icmp_ne (tgt := 12) dX6_move_7 (by decide) (fun h7 => ?_) (fun h7 => ?_)
  · refine pw_aload_n dX6_move_12 rfl ?_
    refine pw_getr dX6_move_13 fl_X6_26 rfl rfl (by decide) (by decide) rfl ?_
    refine pw_iload_n dX6_move_16 rfl ?_
    refine pw_iald dX6_move_17 rfl (by decide) (by decide) (vp_in_nI (by omega) (by decide)) ?_
    rw [nI_clamp (show p < 2 ^ 31 by omega)]
    refine pw_if_ne (tgt := 37) dX6_move_18 (by decide) (fun h18 => ?_) (fun h18 => ?_)
    · refine pw_loc (L' := [(0, .ref 64), (1, .int (nI p)), (2, .int (nI b))]) rfl ?_
      refine j_move _ J _ hb hp hc hPR hpl hR hI ?_
      exact ⟨_, rfl, rfl, rfl, ⟨by rw [if_neg h7], by rw [moI, if_neg h7, mvR, if_neg h18], rfl⟩⟩
    · refine pw_aload_n dX6_move_21 rfl ?_
      refine pw_iload_n dX6_move_22 rfl ?_
      refine pw_iload_n dX6_move_23 rfl ?_
      refine pw_if_ne (tgt := 31) dX6_move_24 (by decide) (fun h24 => ?_) (fun h24 => ?_)
      · refine pw_iload_n dX6_move_31 rfl ?_
        refine pw_iconst (v := 3) dX6_move_32 (by decide) ?_
        refine pw_isub dX6_move_33 ?_
        refine pw_cVv (ci := 6) (y := yX6_attempt) (cc := cX6_attempt) (nL := 3) (ret := none) (rm := { frames := 1, cells := 0, slots := 0, locals := 22 }) dX6_move_34 (r_attempt _ _ _ hp) w_X6_140 rfl (by decide) rfl ⟨by decide, by decide⟩ (by decide) (by decide) rfl (Nat.le_of_ble_eq_true rfl) (fun I34 J34 q34 => ?_)
        obtain ⟨rfl, rfl⟩ := rvv q34
        refine pw_loc (L' := [(0, .ref 64), (1, .int (nI p)), (2, .int (nI b))]) rfl ?_
        have hb0 : ¬ b = 0 := fun z => h24 (by rw [z]; rfl)
        have e3 : nI p - (3 : Int32) = nI (p - 3) := pk_sub (b := 3) (by omega)
        refine j_move _ J _ hb hp hc (fun i hi => by rw [atI_o (by decide), atI_o (by decide), atI_o (by decide), atI_o (by decide)]; exact hPR i hi) ⟨0, by decide, atI_pl⟩ (atI_RG ⟨p - 3, by omega, e3⟩ ⟨c, by omega, hI⟩) (by rw [atI_o (by decide)]; exact hI) ?_
        exact ⟨_, rfl, rfl, rfl, ⟨by rw [if_neg h7], by rw [moI, if_neg h7, mvR, if_pos h18, if_neg hb0], rfl⟩⟩
      · refine pw_iload_n dX6_move_27 rfl ?_
        refine pw_goto (tgt := 34) dX6_move_28 (by decide) ?_
        refine pw_cVv (ci := 6) (y := yX6_attempt) (cc := cX6_attempt) (nL := 3) (ret := none) (rm := { frames := 1, cells := 0, slots := 0, locals := 22 }) dX6_move_34 (r_attempt _ _ _ hp) w_X6_140 rfl (by decide) rfl ⟨by decide, by decide⟩ (by decide) (by decide) rfl (Nat.le_of_ble_eq_true rfl) (fun I34_1 J34_1 q34_1 => ?_)
        obtain ⟨rfl, rfl⟩ := rvv q34_1
        refine pw_loc (L' := [(0, .ref 64), (1, .int (nI p)), (2, .int (nI b))]) rfl ?_
        have hb0 : b = 0 := by
          rcases hb with z | z
          · exact z
          · rw [z] at h24; exact absurd h24 (by decide)
        refine j_move _ J _ hb hp hc (fun i hi => by rw [atI_o (by decide), atI_o (by decide), atI_o (by decide), atI_o (by decide)]; exact hPR i hi) ⟨0, by decide, atI_pl⟩ (atI_RG ⟨p, by omega, rfl⟩ ⟨c, by omega, hI⟩) (by rw [atI_o (by decide)]; exact hI) ?_
        exact ⟨_, rfl, rfl, rfl, ⟨by rw [if_neg h7], by rw [moI, if_neg h7, mvR, if_pos h18, if_pos hb0], rfl⟩⟩
  · refine pw_iconst (v := 0) dX6_move_10 (by decide) ?_
    refine pw_iret dX6_move_11 rfl rfl (by decide) (by decide) ?_
    exact ⟨_, rfl, rfl, rfl, by rw [if_pos h7], by rw [moI, if_pos h7], rfl⟩
