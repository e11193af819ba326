/-! LEAVES: nibbles; an instruction's row; a contender's own methods -/
def nib (x i : Int32) : Int32 := (x.toUInt32 >>> ((4 * i).toUInt32 &&& Int32.toUInt32 31)).toInt32 &&& 15
def wnib (x i v : Int32) : Int32 := (x &&& ((15 <<< ((4 * i) &&& 31)) ^^^ (-1))) ||| ((v &&& 15) <<< ((4 * i) &&& 31))
set_option maxRecDepth 100000 in
set_option maxHeartbeats 4000000 in
theorem c_nibble (x i : Int32) (I : pI) (J : pJ) : pMet yX5_nibble (pws yX5_nibble cX5_nibble 2 (some .int)) { frames := 0, cells := 0, slots := 0, locals := 0 } [.int x, .int i] 84 I J pRs (pOi (fun r I' J' => r = nib x i ∧ I' = I ∧ J' = J)) := by
  refine pMet_of (by decide) (Nat.le_of_ble_eq_true rfl) ?_
  refine pw_iload_n dX5_nibble_0 rfl ?_
  refine pw_iconst (v := 4) dX5_nibble_1 (by decide) ?_
  refine pw_iload_n dX5_nibble_2 rfl ?_
  refine pw_imul dX5_nibble_3 ?_
  refine pw_iushr dX5_nibble_4 ?_
  refine pw_bipush (v := 15) dX5_nibble_5 (by decide) ?_
  refine pw_iand dX5_nibble_7 ?_
  refine pw_iret dX5_nibble_8 rfl rfl (by decide) (by decide) ?_
  exact ⟨_, rfl, rfl, rfl, rfl, rfl, rfl⟩
set_option maxRecDepth 100000 in
set_option maxHeartbeats 4000000 in
theorem c_withNibble (x i v : Int32) (I : pI) (J : pJ) : pMet yX5_withNibble (pws yX5_withNibble cX5_withNibble 4 (some .int)) { frames := 0, cells := 0, slots := 0, locals := 0 } [.int x, .int i, .int v] 84 I J pRs (pOi (fun r I' J' => r = wnib x i v ∧ I' = I ∧ J' = J)) := by
  refine pMet_of (by decide) (Nat.le_of_ble_eq_true rfl) ?_
  refine pw_iconst (v := 4) dX5_withNibble_0 (by decide) ?_
  refine pw_iload_n dX5_withNibble_1 rfl ?_
  refine pw_imul dX5_withNibble_2 ?_
  refine pw_istore_n dX5_withNibble_3 (by decide) ?_
  refine pw_iload_n dX5_withNibble_4 rfl ?_
  refine pw_bipush (v := 15) dX5_withNibble_5 (by decide) ?_
  refine pw_iload_n dX5_withNibble_7 rfl ?_
  refine pw_ishl dX5_withNibble_8 ?_
  refine pw_iconst (v := (-1)) dX5_withNibble_9 (by decide) ?_
  refine pw_ixor dX5_withNibble_10 ?_
  refine pw_iand dX5_withNibble_11 ?_
  refine pw_iload_n dX5_withNibble_12 rfl ?_
  refine pw_bipush (v := 15) dX5_withNibble_13 (by decide) ?_
  refine pw_iand dX5_withNibble_15 ?_
  refine pw_iload_n dX5_withNibble_16 rfl ?_
  refine pw_ishl dX5_withNibble_17 ?_
  refine pw_ior dX5_withNibble_18 ?_
  refine pw_iret dX5_withNibble_19 rfl rfl (by decide) (by decide) ?_
  exact ⟨_, rfl, rfl, rfl, rfl, rfl, rfl⟩
set_option maxRecDepth 100000 in
set_option maxHeartbeats 4000000 in
theorem c_become {a : Nat} (k x y z : Int32) (I : pI) (J : pJ) (hk : (pS a).1 = 2) (ha : a < 84) : pMet yX2_become (pws yX2_become cX2_become 5 none) { frames := 0, cells := 0, slots := 0, locals := 0 } [.ref a, .int k, .int x, .int y, .int z] 84 I J pRs (pOv (fun I' J' => I' = upI (upI (upI (upI I a 0 k) a 1 x) a 2 y) a 3 z ∧ J' = J)) := by
  refine pMet_of (by decide) (Nat.le_of_ble_eq_true rfl) ?_
  refine pw_aload_n dX2_become_0 rfl ?_
  refine pw_iload_n dX2_become_1 rfl ?_
  refine pw_puti dX2_become_2 fl_X2_7 rfl rfl rfl rfl hk ha (by decide) ?_
  refine pw_aload_n dX2_become_5 rfl ?_
  refine pw_iload_n dX2_become_6 rfl ?_
  refine pw_puti dX2_become_7 fl_X2_13 rfl rfl rfl rfl hk ha (by decide) ?_
  refine pw_aload_n dX2_become_10 rfl ?_
  refine pw_iload_n dX2_become_11 rfl ?_
  refine pw_puti dX2_become_12 fl_X2_16 rfl rfl rfl rfl hk ha (by decide) ?_
  refine pw_aload_n dX2_become_15 rfl ?_
  refine pw_iload dX2_become_16 rfl ?_
  refine pw_puti dX2_become_18 fl_X2_19 rfl rfl rfl rfl hk ha (by decide) ?_
  refine pw_vret dX2_become_21 rfl (by decide) (by decide) ?_
  exact ⟨rfl, rfl, rfl, rfl, rfl⟩
set_option maxRecDepth 100000 in
set_option maxHeartbeats 4000000 in
theorem c_end {a : Nat} (I : pI) (J : pJ) (hk : (pS a).1 = 0) (ha : a < 84) : pMet yX0_end (pws yX0_end cX0_end 1 none) { frames := 0, cells := 0, slots := 0, locals := 0 } [.ref a] 84 I J pRs (pOv (fun I' J' => I' = upI (upI (upI (upI I a 0 0) a 1 0) a 2 0) a 3 0 ∧ J' = J)) := by
  refine pMet_of (by decide) (Nat.le_of_ble_eq_true rfl) ?_
  refine pw_aload_n dX0_end_0 rfl ?_
  refine pw_iconst (v := 0) dX0_end_1 (by decide) ?_
  refine pw_puti dX0_end_2 fl_X0_21 rfl rfl rfl rfl hk ha (by decide) ?_
  refine pw_aload_n dX0_end_5 rfl ?_
  refine pw_iconst (v := 0) dX0_end_6 (by decide) ?_
  refine pw_puti dX0_end_7 fl_X0_24 rfl rfl rfl rfl hk ha (by decide) ?_
  refine pw_aload_n dX0_end_10 rfl ?_
  refine pw_iconst (v := 0) dX0_end_11 (by decide) ?_
  refine pw_puti dX0_end_12 fl_X0_31 rfl rfl rfl rfl hk ha (by decide) ?_
  refine pw_aload_n dX0_end_15 rfl ?_
  refine pw_iconst (v := 0) dX0_end_16 (by decide) ?_
  refine pw_puti dX0_end_17 fl_X0_34 rfl rfl rfl rfl hk ha (by decide) ?_
  refine pw_vret dX0_end_20 rfl (by decide) (by decide) ?_
  exact ⟨rfl, rfl, rfl, rfl, rfl⟩
set_option maxRecDepth 100000 in
set_option maxHeartbeats 4000000 in
theorem c_begin {a : Nat} (p n : Int32) (I : pI) (J : pJ) (hk : (pS a).1 = 0) (ha : a < 84) : pMet yX0_begin (pws yX0_begin cX0_begin 3 none) { frames := 1, cells := 0, slots := 0, locals := 23 } [.ref a, .int p, .int n] 84 I J pRs (pOv (fun I' J' => I' = upI (upI (upI (upI (upI (upI I a 0 1) a 1 0) a 2 (wnib (wnib 0 0 p) 1 n)) a 3 0) a 4 0) a 5 0 ∧ J' = J)) := by
  refine pMet_of (by decide) (Nat.le_of_ble_eq_true rfl) ?_
  refine pw_aload_n dX0_begin_0 rfl ?_
  refine pw_iconst (v := 1) dX0_begin_1 (by decide) ?_
  refine pw_puti dX0_begin_2 fl_X0_21 rfl rfl rfl rfl hk ha (by decide) ?_
  refine pw_aload_n dX0_begin_5 rfl ?_
  refine pw_iconst (v := 0) dX0_begin_6 (by decide) ?_
  refine pw_puti dX0_begin_7 fl_X0_24 rfl rfl rfl rfl hk ha (by decide) ?_
  refine pw_aload_n dX0_begin_10 rfl ?_
  refine pw_iconst (v := 0) dX0_begin_11 (by decide) ?_
  refine pw_iconst (v := 0) dX0_begin_12 (by decide) ?_
  refine pw_iload_n dX0_begin_13 rfl ?_
  refine pw_cNi (y := yX5_withNibble) (cc := cX5_withNibble) (nL := 4) (ret := (some .int)) (rm := { frames := 0, cells := 0, slots := 0, locals := 0 }) dX0_begin_14 (c_withNibble _ _ _ _ _) w_X0_27 rfl ⟨by decide, by decide⟩ (by decide) (by decide) rfl (Nat.le_of_ble_eq_true rfl) (fun x14 I14 J14 q14 => ?_)
  obtain ⟨rfl, rfl, rfl⟩ := q14
  refine pw_iconst (v := 1) dX0_begin_17 (by decide) ?_
  refine pw_iload_n dX0_begin_18 rfl ?_
  refine pw_cNi (y := yX5_withNibble) (cc := cX5_withNibble) (nL := 4) (ret := (some .int)) (rm := { frames := 0, cells := 0, slots := 0, locals := 0 }) dX0_begin_19 (c_withNibble _ _ _ _ _) w_X0_27 rfl ⟨by decide, by decide⟩ (by decide) (by decide) rfl (Nat.le_of_ble_eq_true rfl) (fun x19 I19 J19 q19 => ?_)
  obtain ⟨rfl, rfl, rfl⟩ := q19
  refine pw_puti dX0_begin_22 fl_X0_31 rfl rfl rfl rfl hk ha (by decide) ?_
  refine pw_aload_n dX0_begin_25 rfl ?_
  refine pw_iconst (v := 0) dX0_begin_26 (by decide) ?_
  refine pw_puti dX0_begin_27 fl_X0_34 rfl rfl rfl rfl hk ha (by decide) ?_
  refine pw_aload_n dX0_begin_30 rfl ?_
  refine pw_iconst (v := 0) dX0_begin_31 (by decide) ?_
  refine pw_puti dX0_begin_32 fl_X0_14 rfl rfl rfl rfl hk ha (by decide) ?_
  refine pw_aload_n dX0_begin_35 rfl ?_
  refine pw_iconst (v := 0) dX0_begin_36 (by decide) ?_
  refine pw_puti dX0_begin_37 fl_X0_18 rfl rfl rfl rfl hk ha (by decide) ?_
  refine pw_vret dX0_begin_40 rfl (by decide) (by decide) ?_
  exact ⟨rfl, rfl, rfl, rfl, rfl⟩
set_option maxRecDepth 100000 in
set_option maxHeartbeats 4000000 in
theorem c_forget {a : Nat} (I : pI) (J : pJ) (hk : (pS a).1 = 0) (ha : a < 84) : pMet yX0_forget (pws yX0_forget cX0_forget 1 none) { frames := 1, cells := 0, slots := 0, locals := 20 } [.ref a] 84 I J pRs (pOv (fun I' J' => I' = upI (upI (upI (upI (upI (upI I a 0 0) a 1 0) a 2 0) a 3 0) a 4 0) a 5 0 ∧ J' = J)) := by
  refine pMet_of (by decide) (Nat.le_of_ble_eq_true rfl) ?_
  refine pw_aload_n dX0_forget_0 rfl ?_
  refine pw_cVv (ci := 0) (y := yX0_end) (cc := cX0_end) (nL := 1) (ret := none) (rm := { frames := 0, cells := 0, slots := 0, locals := 0 }) dX0_forget_1 (c_end _ _ hk ha) w_X0_9 hk ha rfl ⟨by decide, by decide⟩ (by decide) (by decide) rfl (Nat.le_of_ble_eq_true rfl) (fun I1 J1 q1 => ?_)
  obtain ⟨rfl, rfl⟩ := q1
  refine pw_aload_n dX0_forget_4 rfl ?_
  refine pw_iconst (v := 0) dX0_forget_5 (by decide) ?_
  refine pw_puti dX0_forget_6 fl_X0_14 rfl rfl rfl rfl hk ha (by decide) ?_
  refine pw_aload_n dX0_forget_9 rfl ?_
  refine pw_iconst (v := 0) dX0_forget_10 (by decide) ?_
  refine pw_puti dX0_forget_11 fl_X0_18 rfl rfl rfl rfl hk ha (by decide) ?_
  refine pw_vret dX0_forget_14 rfl (by decide) (by decide) ?_
  exact ⟨rfl, rfl, rfl, rfl, rfl⟩
set_option maxRecDepth 100000 in
set_option maxHeartbeats 4000000 in
theorem c_packed {a : Nat} (I : pI) (J : pJ) (hk : (pS a).1 = 0) (ha : a < 84) : pMet yX0_packed (pws yX0_packed cX0_packed 1 (some .long)) { frames := 0, cells := 0, slots := 0, locals := 0 } [.ref a] 84 I J pRs (pOl (fun r I' J' => r = (((I a 2).toInt64 <<< ((9 : Int32).toInt64 &&& 63)) ||| (I a 1 <<< ((3 : Int32) &&& 31)).toInt64) ||| (I a 0).toInt64 ∧ I' = I ∧ J' = J)) := by
  refine pMet_of (by decide) (Nat.le_of_ble_eq_true rfl) ?_
  refine pw_aload_n dX0_packed_0 rfl ?_
  refine pw_geti dX0_packed_1 fl_X0_31 rfl hk ha (by decide) ?_
  refine pw_i2l dX0_packed_4 ?_
  refine pw_bipush (v := 9) dX0_packed_5 (by decide) ?_
  refine pw_lshl dX0_packed_7 ?_
  refine pw_aload_n dX0_packed_8 rfl ?_
  refine pw_geti dX0_packed_9 fl_X0_24 rfl hk ha (by decide) ?_
  refine pw_iconst (v := 3) dX0_packed_12 (by decide) ?_
  refine pw_ishl dX0_packed_13 ?_
  refine pw_i2l dX0_packed_14 ?_
  refine pw_lor dX0_packed_15 ?_
  refine pw_aload_n dX0_packed_16 rfl ?_
  refine pw_geti dX0_packed_17 fl_X0_21 rfl hk ha (by decide) ?_
  refine pw_i2l dX0_packed_20 ?_
  refine pw_lor dX0_packed_21 ?_
  refine pw_lret dX0_packed_22 rfl (by decide) (by decide) ?_
  exact ⟨_, rfl, rfl, rfl, rfl, rfl, rfl⟩
set_option maxRecDepth 100000 in
set_option maxHeartbeats 4000000 in
theorem c_unpack {a : Nat} (v : Int64) (I : pI) (J : pJ) (hk : (pS a).1 = 0) (ha : a < 84) : pMet yX0_unpack (pws yX0_unpack cX0_unpack 3 none) { frames := 0, cells := 0, slots := 0, locals := 0 } [.ref a, .long v] 84 I J pRs (pOv (fun I' J' => I' = upI (upI (upI I a 0 (v &&& 7).toInt32) a 1 ((v.toUInt64 >>> ((3 : Int32).toInt64.toUInt64 &&& Int64.toUInt64 63)).toInt64 &&& 63).toInt32) a 2 ((v.toUInt64 >>> ((9 : Int32).toInt64.toUInt64 &&& Int64.toUInt64 63)).toInt64 &&& 16777215).toInt32 ∧ J' = J)) := by
  refine pMet_of (by decide) (Nat.le_of_ble_eq_true rfl) ?_
  refine pw_aload_n dX0_unpack_0 rfl ?_
  refine pw_lload_n dX0_unpack_1 rfl ?_
  refine pw_ldc2 (v := (7)) dX0_unpack_2 k_X0_38 ?_
  refine pw_land dX0_unpack_5 ?_
  refine pw_l2i dX0_unpack_6 ?_
  refine pw_puti dX0_unpack_7 fl_X0_21 rfl rfl rfl rfl hk ha (by decide) ?_
  refine pw_aload_n dX0_unpack_10 rfl ?_
  refine pw_lload_n dX0_unpack_11 rfl ?_
  refine pw_iconst (v := 3) dX0_unpack_12 (by decide) ?_
  refine pw_lushr dX0_unpack_13 ?_
  refine pw_ldc2 (v := (63)) dX0_unpack_14 k_X0_40 ?_
  refine pw_land dX0_unpack_17 ?_
  refine pw_l2i dX0_unpack_18 ?_
  refine pw_puti dX0_unpack_19 fl_X0_24 rfl rfl rfl rfl hk ha (by decide) ?_
  refine pw_aload_n dX0_unpack_22 rfl ?_
  refine pw_lload_n dX0_unpack_23 rfl ?_
  refine pw_bipush (v := 9) dX0_unpack_24 (by decide) ?_
  refine pw_lushr dX0_unpack_26 ?_
  refine pw_ldc2 (v := (16777215)) dX0_unpack_27 k_X0_42 ?_
  refine pw_land dX0_unpack_30 ?_
  refine pw_l2i dX0_unpack_31 ?_
  refine pw_puti dX0_unpack_32 fl_X0_31 rfl rfl rfl rfl hk ha (by decide) ?_
  refine pw_vret dX0_unpack_35 rfl (by decide) (by decide) ?_
  exact ⟨rfl, rfl, rfl, rfl, rfl⟩
