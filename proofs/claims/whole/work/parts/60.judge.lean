/-! THE JUDGE of the class: packed processes, rows, slots, on the memory -/
theorem if_c {p q : Prop} [Decidable p] [Decidable q] {α : Type} {x y : α} (h : p ↔ q) : (if p then x else y) = (if q then x else y) := by
  by_cases hp : p
  · rw [if_pos hp, if_pos (h.mp hp)]
  · rw [if_neg hp, if_neg (fun z => hp (h.mpr z))]
theorem ix3 (s p : Nat) : (3 : Int32) * nI s + nI p = nI (3 * s + p) := by rw [show (3 : Int32) = nI 3 by decide, pk_mul, nI_add]
def cpk (I : pI) (a : Nat) : Int64 := (((I a 2).toInt64 <<< ((9 : Int32).toInt64 &&& 63)) ||| (I a 1 <<< ((3 : Int32) &&& 31)).toInt64) ||| (I a 0).toInt64
def cpp (I : pI) (p : Nat) : Int64 := (cpk I (52 + p) <<< ((2 : Int32).toInt64 &&& 63)) ||| (I 55 p).toInt64
abbrev isH (I : pI) (J : pJ) (c s : Nat) : Prop := I 56 s = I 50 2 ∧ ∀ p, p < c → J 57 (3 * s + p) = cpp I p
def us (x : Int64) (k : Int32) : Int64 := (x.toUInt64 >>> (k.toInt64.toUInt64 &&& Int64.toUInt64 63)).toInt64
def mxS (x : Int64) : Int64 := (x ^^^ us x 32) * (-7046029254386353131)
def mxL (F : Int64 → Int64) (I : pI) : Nat → Nat → Int64 → Int64
  | 0, _, x => x
  | m + 1, p, x => mxL F I m (p + 1) (F x + cpp I p)
def hsN (x : Int64) : Nat := (mxS x).toBitVec.toNat / 2 ^ 51
theorem hsN_lt (x : Int64) : hsN x < 8192 := by
  have := (mxS x).toBitVec.isLt
  unfold hsN; omega
theorem us_n : ((51 : Int32).toInt64.toUInt64 &&& Int64.toUInt64 63).toBitVec.toNat = 51 := by decide +kernel
theorem us51 (x : Int64) : (us x 51).toInt32 = nI (x.toBitVec.toNat / 2 ^ 51) := by
  have h := x.toBitVec.isLt
  apply Int32.toBitVec_inj.mp
  apply BitVec.eq_of_toNat_eq
  rw [pk_tn (by omega)]
  show ((us x 51).toBitVec.signExtend 32).toNat = _
  have e : (us x 51).toBitVec.toNat = x.toBitVec.toNat / 2 ^ 51 := by
    show (x.toUInt64 >>> ((51 : Int32).toInt64.toUInt64 &&& Int64.toUInt64 63)).toBitVec.toNat = _
    rw [UInt64.toBitVec_shiftRight]
    show (x.toBitVec >>> (((51 : Int32).toInt64.toUInt64 &&& Int64.toUInt64 63).toBitVec % 64).toNat).toNat = _
    rw [BitVec.toNat_ushiftRight, show (((51 : Int32).toInt64.toUInt64 &&& Int64.toUInt64 63).toBitVec % 64).toNat = 51 by decide +kernel, Nat.shiftRight_eq_div_pow]
  rw [BitVec.signExtend_eq_setWidth_of_le _ (by decide), BitVec.toNat_setWidth, e, Nat.mod_eq_of_lt (by omega)]
def hsI (I : pI) (c : Nat) : Nat := hsN (mxL mxS I c 0 (I 50 2).toInt64)
def slF (I : pI) (J : pJ) (c : Nat) : Nat → Nat → Nat
  | 0, t => t
  | m + 1, t => if I 58 t = -1 ∨ isH I J c (I 58 t).toNatClampNeg then t else slF I J c m ((t + 1) % 8192)
def slN (I : pI) (J : pJ) (c : Nat) : Nat := slF I J c 8192 (hsI I c)
/-- every slot is free or holds a row's number -/
def SV (I : pI) : Prop := ∀ t, t < 8192 → I 58 t = -1 ∨ ∃ s, s < 3000 ∧ I 58 t = nI s
set_option maxRecDepth 100000 in
set_option maxHeartbeats 4000000 in
theorem c_packedProcess {p : Nat} (I : pI) (J : pJ) (hp : p < 3) : pMet yX3_packedProcess (pws yX3_packedProcess cX3_packedProcess 2 (some .long)) { frames := 1, cells := 0, slots := 0, locals := 20 } [.ref 48, .int (nI p)] 84 I J pRs (pOl (fun r I' J' => r = cpp I p ∧ I' = I ∧ J' = J)) := by
  refine pMet_of (by decide) (Nat.le_of_ble_eq_true rfl) ?_
  refine pw_aload_n dX3_packedProcess_0 rfl ?_
  refine pw_getr dX3_packedProcess_1 fl_X3_18 rfl rfl (by decide) (by decide) rfl ?_
  refine pw_getr dX3_packedProcess_4 fl_X3_93 rfl rfl (by decide) (by decide) rfl ?_
  refine pw_iload_n dX3_packedProcess_7 rfl ?_
  refine pw_aaldC (x := 52 + p) dX3_packedProcess_8 rfl (by decide) (by decide) (vp_in_nI (by omega) (by decide)) (by rw [nI_clamp (by omega)]; rfl) ?_
  refine pw_cVl (ci := 0) (y := yX0_packed) (cc := cX0_packed) (nL := 1) (ret := (some .long)) (rm := { frames := 0, cells := 0, slots := 0, locals := 0 }) dX3_packedProcess_9 (c_packed _ _ (pS_coj hp) (by omega)) w_X3_124 (pS_coj hp) (by omega) rfl ⟨by decide, by decide⟩ (by decide) (by decide) rfl (Nat.le_of_ble_eq_true rfl) (fun x9 I9 J9 q9 => ?_)
  obtain ⟨rfl, rfl, rfl⟩ := rvq q9
  refine pw_iconst (v := 2) dX3_packedProcess_12 (by decide) ?_
  refine pw_lshl dX3_packedProcess_13 ?_
  refine pw_aload_n dX3_packedProcess_14 rfl ?_
  refine pw_getr dX3_packedProcess_15 fl_X3_22 rfl rfl (by decide) (by decide) rfl ?_
  refine pw_iload_n dX3_packedProcess_18 rfl ?_
  refine pw_iald dX3_packedProcess_19 rfl (by decide) (by decide) (vp_in_nI (by omega) (by decide)) ?_
  rw [nI_clamp (show p < 2 ^ 31 by omega)]
  refine pw_i2l dX3_packedProcess_20 ?_
  refine pw_lor dX3_packedProcess_21 ?_
  refine pw_lret dX3_packedProcess_22 rfl (by decide) (by decide) ?_
  exact ⟨_, rfl, rfl, rfl, rfl, rfl, rfl⟩
abbrev m_X3_isHall : pT := (yX3_isHall.cls, cX3_isHall, 4, (some .boolean), { frames := 2, cells := 0, slots := 0, locals := 41 }, [], none)
set_option maxRecDepth 100000 in
set_option maxHeartbeats 4000000 in
theorem l_isHall0 {s p : Nat} (I : pI) (J : pJ) (Q : pQ) (hQ : Q (.inl (some (.int 0))) 84 I J pRs) : PW m_X3_isHall Q 24 [(0, .ref 48), (1, .int (nI s)), (2, .int 0), (3, .int (nI p))] [] 84 I J pRs 0 0 := by
  refine pw_iload_n dX3_isHall_24 rfl ?_
  refine pw_aload_n dX3_isHall_25 rfl ?_
  refine pw_getr dX3_isHall_26 fl_X3_18 rfl rfl (by decide) (by decide) rfl ?_
  refine pw_geti dX3_isHall_29 fl_X3_115 rfl rfl (by decide) (by decide) ?_
  refine pw_icmp_ge (tgt := 70) dX3_isHall_32 (by decide) (fun h32 => ?_) (fun h32 => ?_)
  · refine pw_iload_n dX3_isHall_70 rfl ?_
    refine pw_iret dX3_isHall_71 rfl rfl (by decide) (by decide) ?_
    exact hQ
  · refine pw_iload_n dX3_isHall_35 rfl ?_
    refine pw_if_eq (tgt := 70) dX3_isHall_36 (by decide) (fun h36 => ?_) (fun h36 => ?_)
    · refine pw_iload_n dX3_isHall_70 rfl ?_
      refine pw_iret dX3_isHall_71 rfl rfl (by decide) (by decide) ?_
      exact hQ
    · exact absurd rfl h36
set_option maxRecDepth 100000 in
set_option maxHeartbeats 4000000 in
theorem l_isHall {s c : Nat} (I : pI) (J : pJ) (Q : pQ) (hs : s < 3000) (hc : c ≤ 3) (hI : I 50 1 = nI c) : ∀ (m p : Nat), p + m = c → Q (.inl (some (.int (if ∀ p', p' < c → p ≤ p' → J 57 (3 * s + p') = cpp I p' then 1 else 0)))) 84 I J pRs → PW m_X3_isHall Q 24 [(0, .ref 48), (1, .int (nI s)), (2, .int 1), (3, .int (nI p))] [] 84 I J pRs 0 0 := by
  intro m
  induction m with
  | zero =>
    intro p hpm hQ
    refine pw_iload_n dX3_isHall_24 rfl ?_
    refine pw_aload_n dX3_isHall_25 rfl ?_
    refine pw_getr dX3_isHall_26 fl_X3_18 rfl rfl (by decide) (by decide) rfl ?_
    refine pw_geti dX3_isHall_29 fl_X3_115 rfl rfl (by decide) (by decide) ?_
    refine pw_icmp_ge (tgt := 70) dX3_isHall_32 (by decide) (fun h32 => ?_) (fun h32 => ?_)
    · refine pw_iload_n dX3_isHall_70 rfl ?_
      refine pw_iret dX3_isHall_71 rfl rfl (by decide) (by decide) ?_
      rw [if_pos (fun p2 h2 h1 => absurd h2 (by omega))] at hQ
      exact hQ
    · rw [hI] at h32
      exact absurd (nI_le (by omega) (by omega)) h32
  | succ m ih =>
    intro p hpm hQ
    refine pw_iload_n dX3_isHall_24 rfl ?_
    refine pw_aload_n dX3_isHall_25 rfl ?_
    refine pw_getr dX3_isHall_26 fl_X3_18 rfl rfl (by decide) (by decide) rfl ?_
    refine pw_geti dX3_isHall_29 fl_X3_115 rfl rfl (by decide) (by decide) ?_
    refine pw_icmp_ge (tgt := 70) dX3_isHall_32 (by decide) (fun h32 => ?_) (fun h32 => ?_)
    · rw [hI] at h32
      exact absurd ((nI_leI (a := c) (b := p) (by omega) (by omega)).mp h32) (by omega)
    · refine pw_iload_n dX3_isHall_35 rfl ?_
      refine pw_if_eq (tgt := 70) dX3_isHall_36 (by decide) (fun h36 => ?_) (fun h36 => ?_)
      · exact absurd h36 (by decide)
      · refine pw_aload_n dX3_isHall_39 rfl ?_
        refine pw_getr dX3_isHall_40 fl_X3_28 rfl rfl (by decide) (by decide) rfl ?_
        refine pw_iconst (v := 3) dX3_isHall_43 (by decide) ?_
        refine pw_iload_n dX3_isHall_44 rfl ?_
        refine pw_imul dX3_isHall_45 ?_
        refine pw_iload_n dX3_isHall_46 rfl ?_
        refine pw_iadd dX3_isHall_47 ?_
        rw [ix3]
        refine pw_lald dX3_isHall_48 rfl (by decide) (by decide) (vp_in_nI (by omega) (by decide)) ?_
        rw [nI_clamp (show 3 * s + p < 2 ^ 31 by omega)]
        refine pw_aload_n dX3_isHall_49 rfl ?_
        refine pw_iload_n dX3_isHall_50 rfl ?_
        refine pw_cVl (ci := 3) (y := yX3_packedProcess) (cc := cX3_packedProcess) (nL := 2) (ret := (some .long)) (rm := { frames := 1, cells := 0, slots := 0, locals := 20 }) dX3_isHall_51 (c_packedProcess _ _ (by omega)) w_X3_130 rfl (by decide) rfl ⟨by decide, by decide⟩ (by decide) (by decide) rfl (Nat.le_of_ble_eq_true rfl) (fun x51 I51 J51 q51 => ?_)
        obtain ⟨rfl, rfl, rfl⟩ := rvq q51
        refine pw_lcmp dX3_isHall_54 ?_
        refine pw_if_ne (tgt := 62) dX3_isHall_55 (by decide) (fun h55 => ?_) (fun h55 => ?_)
        · refine pw_iconst (v := 0) dX3_isHall_62 (by decide) ?_
          refine pw_istore_n dX3_isHall_63 (by decide) ?_
          refine pw_iinc (v := nI (p + 1)) dX3_isHall_64 rfl (by rw [nI_succ]; rfl) (by decide) ?_
          refine pw_goto (tgt := 24) dX3_isHall_67 (by decide) ?_
          refine pw_loc (L' := [(0, .ref 48), (1, .int (nI s)), (2, .int 0), (3, .int (nI (p + 1)))]) rfl ?_
          rw [if_neg (fun z => h55 ((lg_cmp_eq _ _).mpr (z p (by omega) (Nat.le_refl _))))] at hQ
          exact l_isHall0 I J Q hQ
        · refine pw_iconst (v := 1) dX3_isHall_58 (by decide) ?_
          refine pw_goto (tgt := 63) dX3_isHall_59 (by decide) ?_
          refine pw_istore_n dX3_isHall_63 (by decide) ?_
          refine pw_iinc (v := nI (p + 1)) dX3_isHall_64 rfl (by rw [nI_succ]; rfl) (by decide) ?_
          refine pw_goto (tgt := 24) dX3_isHall_67 (by decide) ?_
          refine pw_loc (L' := [(0, .ref 48), (1, .int (nI s)), (2, .int 1), (3, .int (nI (p + 1)))]) rfl ?_
          have e9 := (lg_cmp_eq _ _).mp h55
          refine ih (p + 1) (by omega) ?_
          have e8 : (∀ p', p' < c → p + 1 ≤ p' → J 57 (3 * s + p') = cpp I p') ↔ (∀ p', p' < c → p ≤ p' → J 57 (3 * s + p') = cpp I p') := by
            refine ⟨fun z p' h2 h1 => ?_, fun z p' h2 h1 => z p' h2 (by omega)⟩
            rcases Nat.eq_or_lt_of_le h1 with h | h
            · subst h; exact e9
            · exact z p' h2 h
          rw [if_c e8]
          exact hQ
set_option maxRecDepth 100000 in
set_option maxHeartbeats 4000000 in
theorem c_isHall {s c : Nat} (I : pI) (J : pJ) (hs : s < 3000) (hc : c ≤ 3) (hI : I 50 1 = nI c) : pMet yX3_isHall (pws yX3_isHall cX3_isHall 4 (some .boolean)) { frames := 2, cells := 0, slots := 0, locals := 41 } [.ref 48, .int (nI s)] 84 I J pRs (pOi (fun r I' J' => r = (if isH I J c s then 1 else 0) ∧ I' = I ∧ J' = J)) := by
  refine pMet_of (by decide) (Nat.le_of_ble_eq_true rfl) ?_
  refine pw_aload_n dX3_isHall_0 rfl ?_
  refine pw_getr dX3_isHall_1 fl_X3_25 rfl rfl (by decide) (by decide) rfl ?_
  refine pw_iload_n dX3_isHall_4 rfl ?_
  refine pw_iald dX3_isHall_5 rfl (by decide) (by decide) (vp_in_nI (by omega) (by decide)) ?_
  rw [nI_clamp (show s < 2 ^ 31 by omega)]
  refine pw_aload_n dX3_isHall_6 rfl ?_
  refine pw_getr dX3_isHall_7 fl_X3_18 rfl rfl (by decide) (by decide) rfl ?_
  refine pw_geti dX3_isHall_10 fl_X3_112 rfl rfl (by decide) (by decide) ?_
  refine pw_icmp_ne (tgt := 20) dX3_isHall_13 (by decide) (fun h13 => ?_) (fun h13 => ?_)
  · refine pw_iconst (v := 0) dX3_isHall_20 (by decide) ?_
    refine pw_istore_n dX3_isHall_21 (by decide) ?_
    refine pw_iconst (v := 0) dX3_isHall_22 (by decide) ?_
    refine pw_istore_n dX3_isHall_23 (by decide) ?_
    refine pw_loc (L' := [(0, .ref 48), (1, .int (nI s)), (2, .int 0), (3, .int (nI 0))]) rfl ?_
    exact l_isHall0 (p := 0) I J _ ⟨_, rfl, rfl, rfl, by rw [if_neg (fun z => h13 z.1)], rfl, rfl⟩
  · refine pw_iconst (v := 1) dX3_isHall_16 (by decide) ?_
    refine pw_goto (tgt := 21) dX3_isHall_17 (by decide) ?_
    refine pw_istore_n dX3_isHall_21 (by decide) ?_
    refine pw_iconst (v := 0) dX3_isHall_22 (by decide) ?_
    refine pw_istore_n dX3_isHall_23 (by decide) ?_
    refine pw_loc (L' := [(0, .ref 48), (1, .int (nI s)), (2, .int 1), (3, .int (nI 0))]) rfl ?_
    refine l_isHall I J _ hs hc hI c 0 (by omega) ⟨_, rfl, rfl, rfl, ?_, rfl, rfl⟩
    exact if_c ⟨fun z => ⟨h13, fun p h => z p h (by omega)⟩, fun z p h _ => z.2 p h⟩
