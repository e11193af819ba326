/-! THE JUDGE of the class: packed processes, rows, slots, on the memory -/
theorem ix3 (s p : Nat) : (3 : Int32) * nI s + nI p = nI (3 * s + p) := by rw [show (3 : Int32) = nI 3 by decide, pk_mul, nI_add]
def cpk (I : pI) (a : Nat) : Int64 := (((I a 2).toInt64 <<< ((9 : Int32).toInt64 &&& 63)) ||| (I a 1 <<< ((3 : Int32) &&& 31)).toInt64) ||| (I a 0).toInt64
def cpp (I : pI) (p : Nat) : Int64 := (cpk I (52 + p) <<< ((2 : Int32).toInt64 &&& 63)) ||| (I 55 p).toInt64
def isH (I : pI) (J : pJ) (c s : Nat) : Prop := I 56 s = I 50 2 ∧ ∀ p, p < c → J 57 (3 * s + p) = cpp I p
instance (I : pI) (J : pJ) (c s : Nat) : Decidable (isH I J c s) := inferInstanceAs (Decidable (_ ∧ _))
def us (x : Int64) (k : Int32) : Int64 := (x.toUInt64 >>> (k.toInt64.toUInt64 &&& Int64.toUInt64 63)).toInt64
def mxS (x : Int64) : Int64 := (x ^^^ us x 32) * (-7046029254386353131)
def mxL (I : pI) : Nat → Nat → Int64 → Int64
  | 0, _, x => x
  | m + 1, p, x => mxL I m (p + 1) (mxS x + cpp I p)
def hsN (x : Int64) : Nat := (mxS x).toBitVec.toNat / 2 ^ 51
theorem hsN_lt (x : Int64) : hsN x < 8192 := by
  have := (mxS x).toBitVec.isLt
  unfold hsN; omega
theorem us_n : ((51 : Int32).toInt64.toUInt64 &&& Int64.toUInt64 63).toBitVec.toNat = 51 := by decide +kernel
theorem us51 (x : Int64) : (us x 51).toInt32 = nI (x.toBitVec.toNat / 2 ^ 51) := by
  have h := x.toBitVec.isLt
  apply Int32.toBitVec_inj.mp
  apply BitVec.eq_of_toNat_eq
  rw [pk_tn (by omega)]
  show ((us x 51).toBitVec.signExtend 32).toNat = _
  have e : (us x 51).toBitVec.toNat = x.toBitVec.toNat / 2 ^ 51 := by
    show (x.toUInt64 >>> ((51 : Int32).toInt64.toUInt64 &&& Int64.toUInt64 63)).toBitVec.toNat = _
    rw [UInt64.toBitVec_shiftRight]
    show (x.toBitVec >>> (((51 : Int32).toInt64.toUInt64 &&& Int64.toUInt64 63).toBitVec % 64).toNat).toNat = _
    rw [BitVec.toNat_ushiftRight, show (((51 : Int32).toInt64.toUInt64 &&& Int64.toUInt64 63).toBitVec % 64).toNat = 51 by decide +kernel, Nat.shiftRight_eq_div_pow]
  rw [BitVec.signExtend_eq_setWidth_of_le _ (by decide), BitVec.toNat_setWidth, e, Nat.mod_eq_of_lt (by omega)]
def hsI (I : pI) (c : Nat) : Nat := hsN (mxL I c 0 (I 50 2).toInt64)
def slF (I : pI) (J : pJ) (c : Nat) : Nat → Nat → Nat
  | 0, t => t
  | m + 1, t => if I 58 t = -1 ∨ isH I J c (I 58 t).toNatClampNeg then t else slF I J c m ((t + 1) % 8192)
def slN (I : pI) (J : pJ) (c : Nat) : Nat := slF I J c 8192 (hsI I c)
/-- every slot is free or holds a row's number -/
def SV (I : pI) : Prop := ∀ t, t < 8192 → I 58 t = -1 ∨ ∃ s, s < 3000 ∧ I 58 t = nI s
set_option maxRecDepth 100000 in
set_option maxHeartbeats 4000000 in
theorem c_packedProcess {p : Nat} (I : pI) (J : pJ) (hp : p < 3) : pMet yX3_packedProcess (pws yX3_packedProcess cX3_packedProcess 2 (some .long)) { frames := 1, cells := 0, slots := 0, locals := 20 } [.ref 48, .int (nI p)] 84 I J pRs (pOl (fun r I' J' => r = cpp I p ∧ I' = I ∧ J' = J)) := by
  refine pMet_of (by decide) (Nat.le_of_ble_eq_true rfl) ?_
  refine pw_aload_n dX3_packedProcess_0 rfl ?_
  refine pw_getr dX3_packedProcess_1 fl_X3_18 rfl rfl (by decide) (by decide) rfl ?_
  refine pw_getr dX3_packedProcess_4 fl_X3_93 rfl rfl (by decide) (by decide) rfl ?_
  refine pw_iload_n dX3_packedProcess_7 rfl ?_
  refine pw_aaldC (x := 52 + p) dX3_packedProcess_8 rfl (by decide) (by decide) (vp_in_nI (by omega) (by decide)) (by rw [nI_clamp (by omega)]; rfl) ?_
  refine pw_cVl (ci := 0) (y := yX0_packed) (cc := cX0_packed) (nL := 1) (ret := (some .long)) (rm := { frames := 0, cells := 0, slots := 0, locals := 0 }) dX3_packedProcess_9 (c_packed _ _ (pS_coj hp) (by omega)) w_X3_124 (pS_coj hp) (by omega) rfl ⟨by decide, by decide⟩ (by decide) (by decide) rfl (Nat.le_of_ble_eq_true rfl) (fun x9 I9 J9 q9 => ?_)
  obtain ⟨rfl, rfl, rfl⟩ := rvq q9
  refine pw_iconst (v := 2) dX3_packedProcess_12 (by decide) ?_
  refine pw_lshl dX3_packedProcess_13 ?_
  refine pw_aload_n dX3_packedProcess_14 rfl ?_
  refine pw_getr dX3_packedProcess_15 fl_X3_22 rfl rfl (by decide) (by decide) rfl ?_
  refine pw_iload_n dX3_packedProcess_18 rfl ?_
  refine pw_iald dX3_packedProcess_19 rfl (by decide) (by decide) (vp_in_nI (by omega) (by decide)) ?_
  rw [nI_clamp (show p < 2 ^ 31 by omega)]
  refine pw_i2l dX3_packedProcess_20 ?_
  refine pw_lor dX3_packedProcess_21 ?_
  refine pw_lret dX3_packedProcess_22 rfl (by decide) (by decide) ?_
  exact ⟨_, rfl, rfl, rfl, rfl, rfl, rfl⟩
abbrev m_X3_isHall : pT := (yX3_isHall.cls, cX3_isHall, 4, (some .boolean), { frames := 2, cells := 0, slots := 0, locals := 41 }, [], none)
set_option maxRecDepth 100000 in
set_option maxHeartbeats 4000000 in
theorem l_isHall0 {s p : Nat} (I : pI) (J : pJ) (Q : pQ) (hQ : Q (.inl (some (.int 0))) 84 I J pRs) : PW m_X3_isHall Q 24 [(0, .ref 48), (1, .int (nI s)), (2, .int 0), (3, .int (nI p))] [] 84 I J pRs 0 0 := by
  refine pw_iload_n dX3_isHall_24 rfl ?_
  refine pw_aload_n dX3_isHall_25 rfl ?_
  refine pw_getr dX3_isHall_26 fl_X3_18 rfl rfl (by decide) (by decide) rfl ?_
  refine pw_geti dX3_isHall_29 fl_X3_115 rfl rfl (by decide) (by decide) ?_
  refine pw_icmp_ge (tgt := 70) dX3_isHall_32 (by decide) (fun h32 => ?_) (fun h32 => ?_)
  · refine pw_iload_n dX3_isHall_70 rfl ?_
    refine pw_iret dX3_isHall_71 rfl rfl (by decide) (by decide) ?_
    exact hQ
  · refine pw_iload_n dX3_isHall_35 rfl ?_
    refine pw_if_eq (tgt := 70) dX3_isHall_36 (by decide) (fun h36 => ?_) (fun h36 => ?_)
    · refine pw_iload_n dX3_isHall_70 rfl ?_
      refine pw_iret dX3_isHall_71 rfl rfl (by decide) (by decide) ?_
      exact hQ
    · exact absurd rfl h36
set_option maxRecDepth 100000 in
set_option maxHeartbeats 4000000 in
theorem l_isHall {s c : Nat} (I : pI) (J : pJ) (Q : pQ) (hs : s < 3000) (hc : c ≤ 3) (hI : I 50 1 = nI c) : ∀ (m p : Nat), p + m = c → Q (.inl (some (.int (if ∀ p', p ≤ p' → p' < c → J 57 (3 * s + p') = cpp I p' then 1 else 0)))) 84 I J pRs → PW m_X3_isHall Q 24 [(0, .ref 48), (1, .int (nI s)), (2, .int 1), (3, .int (nI p))] [] 84 I J pRs 0 0 := by
  intro m
  induction m with
  | zero =>
    intro p hpm hQ
    refine pw_iload_n dX3_isHall_24 rfl ?_
    refine pw_aload_n dX3_isHall_25 rfl ?_
    refine pw_getr dX3_isHall_26 fl_X3_18 rfl rfl (by decide) (by decide) rfl ?_
    refine pw_geti dX3_isHall_29 fl_X3_115 rfl rfl (by decide) (by decide) ?_
    refine pw_icmp_ge (tgt := 70) dX3_isHall_32 (by decide) (fun h32 => ?_) (fun h32 => ?_)
    · refine pw_iload_n dX3_isHall_70 rfl ?_
      refine pw_iret dX3_isHall_71 rfl rfl (by decide) (by decide) ?_
      rw [if_pos (fun p2 h1 h2 => absurd h2 (by omega))] at hQ
      exact hQ
    · rw [hI] at h32
      exact absurd (nI_le (by omega) (by omega)) h32
  | succ m ih =>
    intro p hpm hQ
    refine pw_iload_n dX3_isHall_24 rfl ?_
    refine pw_aload_n dX3_isHall_25 rfl ?_
    refine pw_getr dX3_isHall_26 fl_X3_18 rfl rfl (by decide) (by decide) rfl ?_
    refine pw_geti dX3_isHall_29 fl_X3_115 rfl rfl (by decide) (by decide) ?_
    refine pw_icmp_ge (tgt := 70) dX3_isHall_32 (by decide) (fun h32 => ?_) (fun h32 => ?_)
    · rw [hI] at h32
      exact absurd ((nI_leI (a := c) (b := p) (by omega) (by omega)).mp h32) (by omega)
    · refine pw_iload_n dX3_isHall_35 rfl ?_
      refine pw_if_eq (tgt := 70) dX3_isHall_36 (by decide) (fun h36 => ?_) (fun h36 => ?_)
      · exact absurd h36 (by decide)
      · refine pw_aload_n dX3_isHall_39 rfl ?_
        refine pw_getr dX3_isHall_40 fl_X3_28 rfl rfl (by decide) (by decide) rfl ?_
        refine pw_iconst (v := 3) dX3_isHall_43 (by decide) ?_
        refine pw_iload_n dX3_isHall_44 rfl ?_
        refine pw_imul dX3_isHall_45 ?_
        refine pw_iload_n dX3_isHall_46 rfl ?_
        refine pw_iadd dX3_isHall_47 ?_
        rw [ix3]
        refine pw_lald dX3_isHall_48 rfl (by decide) (by decide) (vp_in_nI (by omega) (by decide)) ?_
        rw [nI_clamp (show 3 * s + p < 2 ^ 31 by omega)]
        refine pw_aload_n dX3_isHall_49 rfl ?_
        refine pw_iload_n dX3_isHall_50 rfl ?_
        refine pw_cVl (ci := 3) (y := yX3_packedProcess) (cc := cX3_packedProcess) (nL := 2) (ret := (some .long)) (rm := { frames := 1, cells := 0, slots := 0, locals := 20 }) dX3_isHall_51 (c_packedProcess _ _ (by omega)) w_X3_130 rfl (by decide) rfl ⟨by decide, by decide⟩ (by decide) (by decide) rfl (Nat.le_of_ble_eq_true rfl) (fun x51 I51 J51 q51 => ?_)
        obtain ⟨rfl, rfl, rfl⟩ := rvq q51
        refine pw_lcmp dX3_isHall_54 ?_
        refine pw_if_ne (tgt := 62) dX3_isHall_55 (by decide) (fun h55 => ?_) (fun h55 => ?_)
        · refine pw_iconst (v := 0) dX3_isHall_62 (by decide) ?_
          refine pw_istore_n dX3_isHall_63 (by decide) ?_
          refine pw_iinc (v := nI (p + 1)) dX3_isHall_64 rfl (by rw [nI_succ]; rfl) (by decide) ?_
          refine pw_goto (tgt := 24) dX3_isHall_67 (by decide) ?_
          refine pw_loc (L' := [(0, .ref 48), (1, .int (nI s)), (2, .int 0), (3, .int (nI (p + 1)))]) rfl ?_
          rw [if_neg (fun z => h55 ((lg_cmp_eq _ _).mpr (z p (Nat.le_refl _) (by omega))))] at hQ
          exact l_isHall0 I J Q hQ
        · refine pw_iconst (v := 1) dX3_isHall_58 (by decide) ?_
          refine pw_goto (tgt := 63) dX3_isHall_59 (by decide) ?_
          refine pw_istore_n dX3_isHall_63 (by decide) ?_
          refine pw_iinc (v := nI (p + 1)) dX3_isHall_64 rfl (by rw [nI_succ]; rfl) (by decide) ?_
          refine pw_goto (tgt := 24) dX3_isHall_67 (by decide) ?_
          refine pw_loc (L' := [(0, .ref 48), (1, .int (nI s)), (2, .int 1), (3, .int (nI (p + 1)))]) rfl ?_
          have e9 := (lg_cmp_eq _ _).mp h55
          refine ih (p + 1) (by omega) ?_
          have e8 : (∀ p', p + 1 ≤ p' → p' < c → J 57 (3 * s + p') = cpp I p') ↔ (∀ p', p ≤ p' → p' < c → J 57 (3 * s + p') = cpp I p') := by
            refine ⟨fun z p' h1 h2 => ?_, fun z p' h1 h2 => z p' (by omega) h2⟩
            rcases Nat.eq_or_lt_of_le h1 with h | h
            · subst h; exact e9
            · exact z p' h h2
          rw [if_congr e8 rfl rfl]
          exact hQ
set_option maxRecDepth 100000 in
set_option maxHeartbeats 4000000 in
theorem c_isHall {s c : Nat} (I : pI) (J : pJ) (hs : s < 3000) (hc : c ≤ 3) (hI : I 50 1 = nI c) : pMet yX3_isHall (pws yX3_isHall cX3_isHall 4 (some .boolean)) { frames := 2, cells := 0, slots := 0, locals := 41 } [.ref 48, .int (nI s)] 84 I J pRs (pOi (fun r I' J' => r = (if isH I J c s then 1 else 0) ∧ I' = I ∧ J' = J)) := by
  refine pMet_of (by decide) (Nat.le_of_ble_eq_true rfl) ?_
  refine pw_aload_n dX3_isHall_0 rfl ?_
  refine pw_getr dX3_isHall_1 fl_X3_25 rfl rfl (by decide) (by decide) rfl ?_
  refine pw_iload_n dX3_isHall_4 rfl ?_
  refine pw_iald dX3_isHall_5 rfl (by decide) (by decide) (vp_in_nI (by omega) (by decide)) ?_
  rw [nI_clamp (show s < 2 ^ 31 by omega)]
  refine pw_aload_n dX3_isHall_6 rfl ?_
  refine pw_getr dX3_isHall_7 fl_X3_18 rfl rfl (by decide) (by decide) rfl ?_
  refine pw_geti dX3_isHall_10 fl_X3_112 rfl rfl (by decide) (by decide) ?_
  refine pw_icmp_ne (tgt := 20) dX3_isHall_13 (by decide) (fun h13 => ?_) (fun h13 => ?_)
  · refine pw_iconst (v := 0) dX3_isHall_20 (by decide) ?_
    refine pw_istore_n dX3_isHall_21 (by decide) ?_
    refine pw_iconst (v := 0) dX3_isHall_22 (by decide) ?_
    refine pw_istore_n dX3_isHall_23 (by decide) ?_
    refine pw_loc (L' := [(0, .ref 48), (1, .int (nI s)), (2, .int 0), (3, .int (nI 0))]) rfl ?_
    exact l_isHall0 (p := 0) I J _ ⟨_, rfl, rfl, rfl, by rw [if_neg (fun z => h13 z.1)], rfl, rfl⟩
  · refine pw_iconst (v := 1) dX3_isHall_16 (by decide) ?_
    refine pw_goto (tgt := 21) dX3_isHall_17 (by decide) ?_
    refine pw_istore_n dX3_isHall_21 (by decide) ?_
    refine pw_iconst (v := 0) dX3_isHall_22 (by decide) ?_
    refine pw_istore_n dX3_isHall_23 (by decide) ?_
    refine pw_loc (L' := [(0, .ref 48), (1, .int (nI s)), (2, .int 1), (3, .int (nI 0))]) rfl ?_
    refine l_isHall I J _ hs hc hI c 0 (by omega) ⟨_, rfl, rfl, rfl, ?_, rfl, rfl⟩
    exact if_congr ⟨fun z => ⟨h13, fun p h => z p (by omega) h⟩, fun z p _ h => z.2 p h⟩ rfl rfl
abbrev m_X3_slotOfHall : pT := (yX3_slotOfHall.cls, cX3_slotOfHall, 5, (some .int), { frames := 3, cells := 0, slots := 0, locals := 64 }, [], none)
set_option maxRecDepth 100000 in
set_option maxHeartbeats 4000000 in
theorem l_slot {c : Nat} (I : pI) (J : pJ) (Q : pQ) (hc : c ≤ 3) (hI : I 50 1 = nI c) (hSV : SV I) : ∀ (m t d : Nat), t < 8192 → d + m = 8192 → Q (.inl (some (.int (nI (slF I J c m t))))) 84 I J pRs → PW m_X3_slotOfHall Q 63 [(0, .ref 48), (3, .int (nI t)), (4, .int (nI d))] [] 84 I J pRs 0 0 := by
  intro m
  induction m with
  | zero =>
    intro t d ht hdm hQ
    refine pw_iload dX3_slotOfHall_63 rfl ?_
    refine pw_sipush (v := 8192) dX3_slotOfHall_65 (by decide) ?_
    refine pw_icmp_ge (tgt := 111) dX3_slotOfHall_68 (by decide) (fun h68 => ?_) (fun h68 => ?_)
    · refine pw_iload_n dX3_slotOfHall_111 rfl ?_
      refine pw_iret dX3_slotOfHall_112 rfl rfl (by decide) (by decide) ?_
      exact hQ
    · exact absurd (nI_le (a := 8192) (b := d) (by omega) (by omega)) h68
  | succ m ih =>
    intro t d ht hdm hQ
    refine pw_iload dX3_slotOfHall_63 rfl ?_
    refine pw_sipush (v := 8192) dX3_slotOfHall_65 (by decide) ?_
    refine pw_icmp_ge (tgt := 111) dX3_slotOfHall_68 (by decide) (fun h68 => ?_) (fun h68 => ?_)
    · exact absurd ((nI_leI (a := 8192) (b := d) (by omega) (by omega)).mp h68) (by omega)
    · refine pw_aload_n dX3_slotOfHall_71 rfl ?_
      refine pw_getr dX3_slotOfHall_72 fl_X3_32 rfl rfl (by decide) (by decide) rfl ?_
      refine pw_iload_n dX3_slotOfHall_75 rfl ?_
      refine pw_iald dX3_slotOfHall_76 rfl (by decide) (by decide) (vp_in_nI (by omega) (by decide)) ?_
      rw [nI_clamp (show t < 2 ^ 31 by omega)]
      refine pw_iconst (v := (-1)) dX3_slotOfHall_77 (by decide) ?_
      refine pw_icmp_eq (tgt := 111) dX3_slotOfHall_78 (by decide) (fun h78 => ?_) (fun h78 => ?_)
      · refine pw_iload_n dX3_slotOfHall_111 rfl ?_
        refine pw_iret dX3_slotOfHall_112 rfl rfl (by decide) (by decide) ?_
        rw [slF, if_pos (Or.inl h78)] at hQ
        exact hQ
      · refine pw_aload_n dX3_slotOfHall_81 rfl ?_
        refine pw_aload_n dX3_slotOfHall_82 rfl ?_
        refine pw_getr dX3_slotOfHall_83 fl_X3_32 rfl rfl (by decide) (by decide) rfl ?_
        refine pw_iload_n dX3_slotOfHall_86 rfl ?_
        refine pw_iald dX3_slotOfHall_87 rfl (by decide) (by decide) (vp_in_nI (by omega) (by decide)) ?_
        rw [nI_clamp (show t < 2 ^ 31 by omega)]
        obtain ⟨s, hs1, hs2⟩ : ∃ s, s < 3000 ∧ I 58 t = nI s := by
          rcases hSV t ht with z | z
          · exact absurd z h78
          · exact z
        rw [hs2]
        refine pw_cVi (ci := 3) (y := yX3_isHall) (cc := cX3_isHall) (nL := 4) (ret := (some .boolean)) (rm := { frames := 2, cells := 0, slots := 0, locals := 41 }) dX3_slotOfHall_88 (c_isHall (s := s) _ _ hs1 hc hI) w_X3_134 rfl (by decide) rfl ⟨by decide, by decide⟩ (by decide) (by decide) rfl (Nat.le_of_ble_eq_true rfl) (fun x88 I88 J88 q88 => ?_)
        obtain ⟨rfl, rfl, rfl⟩ := rvq q88
        refine pw_if_eq (tgt := 97) dX3_slotOfHall_91 (by decide) (fun h91 => ?_) (fun h91 => ?_)
        · refine pw_iload_n dX3_slotOfHall_97 rfl ?_
          have e7 : (I 58 t).toNatClampNeg = s := by rw [hs2, nI_clamp (by omega)]
          refine pw_iconst (v := 1) dX3_slotOfHall_98 (by decide) ?_
          refine pw_iadd dX3_slotOfHall_99 ?_
          refine pw_sipush (v := 8192) dX3_slotOfHall_100 (by decide) ?_
          rw [show nI t + (1 : Int32) = nI (t + 1) from nI_1 t]
          refine pw_irem dX3_slotOfHall_103 (by decide) ?_
          rw [show (8192 : Int32) = nI 8192 by decide, pk_rem (by omega) (by decide) (by decide)]
          refine pw_istore_n dX3_slotOfHall_104 (by decide) ?_
          refine pw_iinc (v := nI (d + 1)) dX3_slotOfHall_105 rfl (by rw [nI_succ]; rfl) (by decide) ?_
          refine pw_goto (tgt := 63) dX3_slotOfHall_108 (by decide) ?_
          refine pw_loc (L' := [(0, .ref 48), (3, .int (nI ((t + 1) % 8192))), (4, .int (nI (d + 1)))]) rfl ?_
          exact ih _ (d + 1) (Nat.mod_lt _ (by decide)) (by omega) (by rw [slF, if_neg (fun z => by
            rcases z with z | z
            · exact h78 z
            · rw [e7] at z
              rw [if_pos z] at h91
              exact absurd h91 (by decide))] at hQ; exact hQ)
        · refine pw_goto (tgt := 111) dX3_slotOfHall_94 (by decide) ?_
          refine pw_iload_n dX3_slotOfHall_111 rfl ?_
          refine pw_iret dX3_slotOfHall_112 rfl rfl (by decide) (by decide) ?_
          have z9 : isH I J c s := Classical.byContradiction (fun z => h91 (if_neg z))
          rw [slF, if_pos (Or.inr (by rw [show (I 58 t).toNatClampNeg = s by rw [hs2, nI_clamp (by omega)]]; exact z9))] at hQ
          exact hQ
set_option maxRecDepth 100000 in
set_option maxHeartbeats 4000000 in
theorem l_mix {c : Nat} (I : pI) (J : pJ) (Q : pQ) (hc : c ≤ 3) (hI : I 50 1 = nI c) (hSV : SV I) : ∀ (m p : Nat) (x : Int64), p + m = c → Q (.inl (some (.int (nI (slF I J c 8192 (hsN (mxL I m p x))))))) 84 I J pRs → PW m_X3_slotOfHall Q 11 [(0, .ref 48), (1, .long x), (3, .int (nI p))] [] 84 I J pRs 0 0 := by
  intro m
  induction m with
  | zero =>
    intro p x hpm hQ
    refine pw_iload_n dX3_slotOfHall_11 rfl ?_
    refine pw_aload_n dX3_slotOfHall_12 rfl ?_
    refine pw_getr dX3_slotOfHall_13 fl_X3_18 rfl rfl (by decide) (by decide) rfl ?_
    refine pw_geti dX3_slotOfHall_16 fl_X3_115 rfl rfl (by decide) (by decide) ?_
    refine pw_icmp_ge (tgt := 45) dX3_slotOfHall_19 (by decide) (fun h19 => ?_) (fun h19 => ?_)
    · refine pw_lload_n dX3_slotOfHall_45 rfl ?_
      refine pw_lload_n dX3_slotOfHall_46 rfl ?_
      refine pw_bipush (v := 32) dX3_slotOfHall_47 (by decide) ?_
      refine pw_lushr dX3_slotOfHall_49 ?_
      refine pw_lxor dX3_slotOfHall_50 ?_
      refine pw_ldc2 (v := (-7046029254386353131)) dX3_slotOfHall_51 k_X3_128 ?_
      refine pw_lmul dX3_slotOfHall_54 ?_
      refine pw_bipush (v := 51) dX3_slotOfHall_55 (by decide) ?_
      refine pw_lushr dX3_slotOfHall_57 ?_
      refine pw_l2i (x := us (mxS x) 51) dX3_slotOfHall_58 ?_
      rw [us51, show (mxS x).toBitVec.toNat / 2 ^ 51 = hsN x from rfl]
      refine pw_istore_n dX3_slotOfHall_59 (by decide) ?_
      refine pw_iconst (v := 0) dX3_slotOfHall_60 (by decide) ?_
      refine pw_istore dX3_slotOfHall_61 (by decide) ?_
      refine pw_loc (L' := [(0, .ref 48), (3, .int (nI (hsN x))), (4, .int (nI 0))]) rfl ?_
      exact l_slot I J Q hc hI hSV 8192 _ 0 (hsN_lt x) (by decide) hQ
    · rw [hI] at h19
      exact absurd (nI_le (by omega) (by omega)) h19
  | succ m ih =>
    intro p x hpm hQ
    refine pw_iload_n dX3_slotOfHall_11 rfl ?_
    refine pw_aload_n dX3_slotOfHall_12 rfl ?_
    refine pw_getr dX3_slotOfHall_13 fl_X3_18 rfl rfl (by decide) (by decide) rfl ?_
    refine pw_geti dX3_slotOfHall_16 fl_X3_115 rfl rfl (by decide) (by decide) ?_
    refine pw_icmp_ge (tgt := 45) dX3_slotOfHall_19 (by decide) (fun h19 => ?_) (fun h19 => ?_)
    · rw [hI] at h19
      exact absurd ((nI_leI (a := c) (b := p) (by omega) (by omega)).mp h19) (by omega)
    · refine pw_lload_n dX3_slotOfHall_22 rfl ?_
      refine pw_lload_n dX3_slotOfHall_23 rfl ?_
      refine pw_bipush (v := 32) dX3_slotOfHall_24 (by decide) ?_
      refine pw_lushr dX3_slotOfHall_26 ?_
      refine pw_lxor dX3_slotOfHall_27 ?_
      refine pw_ldc2 (v := (-7046029254386353131)) dX3_slotOfHall_28 k_X3_128 ?_
      refine pw_lmul dX3_slotOfHall_31 ?_
      refine pw_aload_n dX3_slotOfHall_32 rfl ?_
      refine pw_iload_n dX3_slotOfHall_33 rfl ?_
      refine pw_cVl (ci := 3) (y := yX3_packedProcess) (cc := cX3_packedProcess) (nL := 2) (ret := (some .long)) (rm := { frames := 1, cells := 0, slots := 0, locals := 20 }) dX3_slotOfHall_34 (c_packedProcess _ _ (by omega)) w_X3_130 rfl (by decide) rfl ⟨by decide, by decide⟩ (by decide) (by decide) rfl (Nat.le_of_ble_eq_true rfl) (fun x34 I34 J34 q34 => ?_)
      obtain ⟨rfl, rfl, rfl⟩ := rvq q34
      refine pw_ladd dX3_slotOfHall_37 ?_
      refine pw_lstore_n dX3_slotOfHall_38 (by decide) ?_
      refine pw_iinc (v := nI (p + 1)) dX3_slotOfHall_39 rfl (by rw [nI_succ]; rfl) (by decide) ?_
      refine pw_goto (tgt := 11) dX3_slotOfHall_42 (by decide) ?_
      refine pw_loc (L' := [(0, .ref 48), (1, .long (mxS x + cpp I p)), (3, .int (nI (p + 1)))]) rfl ?_
      exact ih (p + 1) _ (by omega) (by rw [mxL] at hQ; exact hQ)
set_option maxRecDepth 100000 in
set_option maxHeartbeats 4000000 in
theorem c_slotOfHall {c : Nat} (I : pI) (J : pJ) (hc : c ≤ 3) (hI : I 50 1 = nI c) (hSV : SV I) : pMet yX3_slotOfHall (pws yX3_slotOfHall cX3_slotOfHall 5 (some .int)) { frames := 3, cells := 0, slots := 0, locals := 64 } [.ref 48] 84 I J pRs (pOi (fun r I' J' => r = nI (slN I J c) ∧ I' = I ∧ J' = J)) := by
  refine pMet_of (by decide) (Nat.le_of_ble_eq_true rfl) ?_
  refine pw_aload_n dX3_slotOfHall_0 rfl ?_
  refine pw_getr dX3_slotOfHall_1 fl_X3_18 rfl rfl (by decide) (by decide) rfl ?_
  refine pw_geti dX3_slotOfHall_4 fl_X3_112 rfl rfl (by decide) (by decide) ?_
  refine pw_i2l dX3_slotOfHall_7 ?_
  refine pw_lstore_n dX3_slotOfHall_8 (by decide) ?_
  refine pw_iconst (v := 0) dX3_slotOfHall_9 (by decide) ?_
  refine pw_istore_n dX3_slotOfHall_10 (by decide) ?_
  refine pw_loc (L' := [(0, .ref 48), (1, .long (I 50 2).toInt64), (3, .int (nI 0))]) rfl ?_
  exact l_mix I J _ hc hI hSV c 0 _ (by omega) ⟨_, rfl, rfl, rfl, rfl, rfl, rfl⟩
