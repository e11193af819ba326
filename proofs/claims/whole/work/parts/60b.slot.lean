abbrev m_X3_slotOfHall : pT := (yX3_slotOfHall.cls, cX3_slotOfHall, 5, (some .int), { frames := 3, cells := 0, slots := 0, locals := 64 }, [], none)
set_option maxRecDepth 100000 in
set_option maxHeartbeats 4000000 in
theorem l_slot {c : Nat} (I : pI) (J : pJ) (Q : pQ) (hc : c ≤ 3) (hI : I 50 1 = nI c) (hSV : SV I) : ∀ (m t d : Nat), t < 8192 → d + m = 8192 → Q (.inl (some (.int (nI (slF I J c m t))))) 84 I J pRs → PW m_X3_slotOfHall Q 63 [(0, .ref 48), (3, .int (nI t)), (4, .int (nI d))] [] 84 I J pRs 0 0 := by
  intro m
  induction m with
  | zero =>
    intro t d ht hdm hQ
    refine pw_iload dX3_slotOfHall_63 rfl ?_
    refine pw_sipush (v := 8192) dX3_slotOfHall_65 (by decide) ?_
    refine pw_icmp_ge (tgt := 111) dX3_slotOfHall_68 (by decide) (fun h68 => ?_) (fun h68 => ?_)
    · refine pw_iload_n dX3_slotOfHall_111 rfl ?_
      refine pw_iret dX3_slotOfHall_112 rfl rfl (by decide) (by decide) ?_
      exact hQ
    · exact absurd (nI_le (a := 8192) (b := d) (by omega) (by omega)) h68
  | succ m ih =>
    intro t d ht hdm hQ
    refine pw_iload dX3_slotOfHall_63 rfl ?_
    refine pw_sipush (v := 8192) dX3_slotOfHall_65 (by decide) ?_
    refine pw_icmp_ge (tgt := 111) dX3_slotOfHall_68 (by decide) (fun h68 => ?_) (fun h68 => ?_)
    · exact absurd ((nI_leI (a := 8192) (b := d) (by omega) (by omega)).mp h68) (by omega)
    · refine pw_aload_n dX3_slotOfHall_71 rfl ?_
      refine pw_getr dX3_slotOfHall_72 fl_X3_32 rfl rfl (by decide) (by decide) rfl ?_
      refine pw_iload_n dX3_slotOfHall_75 rfl ?_
      refine pw_iald dX3_slotOfHall_76 rfl (by decide) (by decide) (vp_in_nI (by omega) (by decide)) ?_
      rw [nI_clamp (show t < 2 ^ 31 by omega)]
      refine pw_iconst (v := (-1)) dX3_slotOfHall_77 (by decide) ?_
      refine pw_icmp_eq (tgt := 111) dX3_slotOfHall_78 (by decide) (fun h78 => ?_) (fun h78 => ?_)
      · refine pw_iload_n dX3_slotOfHall_111 rfl ?_
        refine pw_iret dX3_slotOfHall_112 rfl rfl (by decide) (by decide) ?_
        rw [slF, if_pos (Or.inl h78)] at hQ
        exact hQ
      · refine pw_aload_n dX3_slotOfHall_81 rfl ?_
        refine pw_aload_n dX3_slotOfHall_82 rfl ?_
        refine pw_getr dX3_slotOfHall_83 fl_X3_32 rfl rfl (by decide) (by decide) rfl ?_
        refine pw_iload_n dX3_slotOfHall_86 rfl ?_
        refine pw_iald dX3_slotOfHall_87 rfl (by decide) (by decide) (vp_in_nI (by omega) (by decide)) ?_
        rw [nI_clamp (show t < 2 ^ 31 by omega)]
        obtain ⟨s, hs1, hs2⟩ : ∃ s, s < 3000 ∧ I 58 t = nI s := by
          rcases hSV t ht with z | z
          · exact absurd z h78
          · exact z
        rw [hs2]
        refine pw_cVi (ci := 3) (y := yX3_isHall) (cc := cX3_isHall) (nL := 4) (ret := (some .boolean)) (rm := { frames := 2, cells := 0, slots := 0, locals := 41 }) dX3_slotOfHall_88 (c_isHall (s := s) _ _ hs1 hc hI) w_X3_134 rfl (by decide) rfl ⟨by decide, by decide⟩ (by decide) (by decide) rfl (Nat.le_of_ble_eq_true rfl) (fun x88 I88 J88 q88 => ?_)
        obtain ⟨rfl, rfl, rfl⟩ := rvq q88
        refine pw_if_eq (tgt := 97) dX3_slotOfHall_91 (by decide) (fun h91 => ?_) (fun h91 => ?_)
        · refine pw_iload_n dX3_slotOfHall_97 rfl ?_
          have e7 : (I 58 t).toNatClampNeg = s := by rw [hs2, nI_clamp (by omega)]
          refine pw_iconst (v := 1) dX3_slotOfHall_98 (by decide) ?_
          refine pw_iadd dX3_slotOfHall_99 ?_
          refine pw_sipush (v := 8192) dX3_slotOfHall_100 (by decide) ?_
          rw [show nI t + (1 : Int32) = nI (t + 1) from nI_1 t]
          refine pw_irem dX3_slotOfHall_103 (by decide) ?_
          rw [show (8192 : Int32) = nI 8192 by decide, pk_rem (by omega) (by decide) (by decide)]
          refine pw_istore_n dX3_slotOfHall_104 (by decide) ?_
          refine pw_iinc (v := nI (d + 1)) dX3_slotOfHall_105 rfl (by rw [nI_succ]; rfl) (by decide) ?_
          refine pw_goto (tgt := 63) dX3_slotOfHall_108 (by decide) ?_
          refine pw_loc (L' := [(0, .ref 48), (3, .int (nI ((t + 1) % 8192))), (4, .int (nI (d + 1)))]) rfl ?_
          have z9 : ¬ (I 58 t = -1 ∨ isH I J c (I 58 t).toNatClampNeg) := by
            intro z
            rcases z with z | z
            · exact h78 z
            · rw [e7] at z
              rw [if_pos z] at h91
              exact absurd h91 (by decide)
          rw [slF, if_neg z9] at hQ
          exact ih _ (d + 1) (Nat.mod_lt _ (by decide)) (by omega) hQ
        · refine pw_goto (tgt := 111) dX3_slotOfHall_94 (by decide) ?_
          refine pw_iload_n dX3_slotOfHall_111 rfl ?_
          refine pw_iret dX3_slotOfHall_112 rfl rfl (by decide) (by decide) ?_
          have z9 : isH I J c s := Classical.byContradiction (fun z => h91 (if_neg z))
          rw [slF, if_pos (Or.inr (by rw [show (I 58 t).toNatClampNeg = s by rw [hs2, nI_clamp (by omega)]]; exact z9))] at hQ
          exact hQ
set_option maxRecDepth 100000 in
set_option maxHeartbeats 4000000 in
theorem l_mix {c T : Nat} (F : Int64 → Int64) (G : Int64 → Nat) (hT : T = 8192) (hF : ∀ x : Int64, (x ^^^ (x.toUInt64 >>> ((32 : Int32).toInt64.toUInt64 &&& Int64.toUInt64 63)).toInt64) * (-7046029254386353131) = F x) (hG : ∀ x, ((F x).toUInt64 >>> ((51 : Int32).toInt64.toUInt64 &&& Int64.toUInt64 63)).toInt64.toInt32 = nI (G x)) (hG2 : ∀ x, G x < 8192) (I : pI) (J : pJ) (Q : pQ) (hc : c ≤ 3) (hI : I 50 1 = nI c) (hSV : SV I) : ∀ (m p : Nat) (x : Int64), p + m = c → Q (.inl (some (.int (nI (slF I J c T (G (mxL F I m p x))))))) 84 I J pRs → PW m_X3_slotOfHall Q 11 [(0, .ref 48), (1, .long x), (3, .int (nI p))] [] 84 I J pRs 0 0 := by
  intro m
  induction m with
  | zero =>
    intro p x hpm hQ
    refine pw_iload_n dX3_slotOfHall_11 rfl ?_
    refine pw_aload_n dX3_slotOfHall_12 rfl ?_
    refine pw_getr dX3_slotOfHall_13 fl_X3_18 rfl rfl (by decide) (by decide) rfl ?_
    refine pw_geti dX3_slotOfHall_16 fl_X3_115 rfl rfl (by decide) (by decide) ?_
    refine pw_icmp_ge (tgt := 45) dX3_slotOfHall_19 (by decide) (fun h19 => ?_) (fun h19 => ?_)
    · refine pw_lload_n dX3_slotOfHall_45 rfl ?_
      refine pw_lload_n dX3_slotOfHall_46 rfl ?_
      refine pw_bipush (v := 32) dX3_slotOfHall_47 (by decide) ?_
      refine pw_lushr dX3_slotOfHall_49 ?_
      refine pw_lxor dX3_slotOfHall_50 ?_
      refine pw_ldc2 (v := (-7046029254386353131)) dX3_slotOfHall_51 k_X3_128 ?_
      refine pw_lmul dX3_slotOfHall_54 ?_
      rw [hF]
      refine pw_bipush (v := 51) dX3_slotOfHall_55 (by decide) ?_
      refine pw_lushr dX3_slotOfHall_57 ?_
      refine pw_l2i dX3_slotOfHall_58 ?_
      rw [hG]
      refine pw_istore_n dX3_slotOfHall_59 (by decide) ?_
      refine pw_iconst (v := 0) dX3_slotOfHall_60 (by decide) ?_
      refine pw_istore dX3_slotOfHall_61 (by decide) ?_
      refine pw_loc (L' := [(0, .ref 48), (3, .int (nI (G x))), (4, .int (nI 0))]) rfl ?_
      exact l_slot I J Q hc hI hSV T _ 0 (hG2 x) (by omega) (by rw [mxL] at hQ; exact hQ)
    · rw [hI] at h19
      exact absurd (nI_le (by omega) (by omega)) h19
  | succ m ih =>
    intro p x hpm hQ
    refine pw_iload_n dX3_slotOfHall_11 rfl ?_
    refine pw_aload_n dX3_slotOfHall_12 rfl ?_
    refine pw_getr dX3_slotOfHall_13 fl_X3_18 rfl rfl (by decide) (by decide) rfl ?_
    refine pw_geti dX3_slotOfHall_16 fl_X3_115 rfl rfl (by decide) (by decide) ?_
    refine pw_icmp_ge (tgt := 45) dX3_slotOfHall_19 (by decide) (fun h19 => ?_) (fun h19 => ?_)
    · rw [hI] at h19
      exact absurd ((nI_leI (a := c) (b := p) (by omega) (by omega)).mp h19) (by omega)
    · refine pw_lload_n dX3_slotOfHall_22 rfl ?_
      refine pw_lload_n dX3_slotOfHall_23 rfl ?_
      refine pw_bipush (v := 32) dX3_slotOfHall_24 (by decide) ?_
      refine pw_lushr dX3_slotOfHall_26 ?_
      refine pw_lxor dX3_slotOfHall_27 ?_
      refine pw_ldc2 (v := (-7046029254386353131)) dX3_slotOfHall_28 k_X3_128 ?_
      refine pw_lmul dX3_slotOfHall_31 ?_
      rw [hF]
      refine pw_aload_n dX3_slotOfHall_32 rfl ?_
      refine pw_iload_n dX3_slotOfHall_33 rfl ?_
      refine pw_cVl (ci := 3) (y := yX3_packedProcess) (cc := cX3_packedProcess) (nL := 2) (ret := (some .long)) (rm := { frames := 1, cells := 0, slots := 0, locals := 20 }) dX3_slotOfHall_34 (c_packedProcess _ _ (by omega)) w_X3_130 rfl (by decide) rfl ⟨by decide, by decide⟩ (by decide) (by decide) rfl (Nat.le_of_ble_eq_true rfl) (fun x34 I34 J34 q34 => ?_)
      obtain ⟨rfl, rfl, rfl⟩ := rvq q34
      refine pw_ladd dX3_slotOfHall_37 ?_
      refine pw_lstore_n dX3_slotOfHall_38 (by decide) ?_
      refine pw_iinc (v := nI (p + 1)) dX3_slotOfHall_39 rfl (by rw [nI_succ]; rfl) (by decide) ?_
      refine pw_goto (tgt := 11) dX3_slotOfHall_42 (by decide) ?_
      refine pw_loc (L' := [(0, .ref 48), (1, .long (F x + cpp I p)), (3, .int (nI (p + 1)))]) rfl ?_
      exact ih (p + 1) _ (by omega) (by rw [mxL] at hQ; exact hQ)
set_option maxRecDepth 100000 in
set_option maxHeartbeats 4000000 in
theorem c_slotOfHall {c : Nat} (I : pI) (J : pJ) (hc : c ≤ 3) (hI : I 50 1 = nI c) (hSV : SV I) : pMet yX3_slotOfHall (pws yX3_slotOfHall cX3_slotOfHall 5 (some .int)) { frames := 3, cells := 0, slots := 0, locals := 64 } [.ref 48] 84 I J pRs (pOi (fun r I' J' => r = nI (slN I J c) ∧ I' = I ∧ J' = J)) := by
  refine pMet_of (by decide) (Nat.le_of_ble_eq_true rfl) ?_
  refine pw_aload_n dX3_slotOfHall_0 rfl ?_
  refine pw_getr dX3_slotOfHall_1 fl_X3_18 rfl rfl (by decide) (by decide) rfl ?_
  refine pw_geti dX3_slotOfHall_4 fl_X3_112 rfl rfl (by decide) (by decide) ?_
  refine pw_i2l dX3_slotOfHall_7 ?_
  refine pw_lstore_n dX3_slotOfHall_8 (by decide) ?_
  refine pw_iconst (v := 0) dX3_slotOfHall_9 (by decide) ?_
  refine pw_istore_n dX3_slotOfHall_10 (by decide) ?_
  refine pw_loc (L' := [(0, .ref 48), (1, .long (I 50 2).toInt64), (3, .int (nI 0))]) rfl ?_
  exact l_mix mxS hsN rfl (fun _ => rfl) (fun x => us51 (mxS x)) hsN_lt I J _ hc hI hSV c 0 _ (by omega) ⟨_, rfl, rfl, rfl, rfl, rfl, rfl⟩
