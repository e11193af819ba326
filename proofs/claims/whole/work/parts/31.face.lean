/-! the museum's face: a contract a case -/
def eA : String := "java/lang/IllegalArgumentException"
def eS : String := "java/lang/IllegalStateException"
def eB : String := "java/lang/IndexOutOfBoundsException"
set_option maxRecDepth 100000 in
set_option maxHeartbeats 4000000 in
theorem c_processOf {p c : Nat} (I : pI) (J : pJ) (hp : p < c) (hc : c ≤ 3) (hI : I 43 1 = nI c) : pMet yX5_processOf (pws yX5_processOf cX5_processOf 2 (some (.object "LockMuseum$Contender"))) { frames := 6, cells := 1, slots := 6, locals := 90 } [.ref 0, .int (nI p)] 84 I J pRs (pOr (fun r I' J' => r = 45 + p ∧ I' = I ∧ J' = J)) := by
  refine pMet_of (by decide) (Nat.le_of_ble_eq_true rfl) ?_
  refine pw_iload_n dX5_processOf_0 rfl ?_
  refine pw_if_lt (tgt := 15) dX5_processOf_1 (by decide) (fun h1 => ?_) (fun h1 => ?_)
  · exact absurd h1 (nI_pos (by omega))
  · refine pw_iload_n dX5_processOf_4 rfl ?_
    refine pw_aload_n dX5_processOf_5 rfl ?_
    refine pw_getr dX5_processOf_6 fl_X5_19 rfl rfl (by decide) (by decide) rfl ?_
    refine pw_geti dX5_processOf_9 fl_X5_89 rfl rfl (by decide) (by decide) ?_
    refine pw_icmp_lt (tgt := 25) dX5_processOf_12 (by decide) (fun h12 => ?_) (fun h12 => ?_)
    · refine pw_aload_n dX5_processOf_25 rfl ?_
      refine pw_getr dX5_processOf_26 fl_X5_19 rfl rfl (by decide) (by decide) rfl ?_
      refine pw_getr dX5_processOf_29 fl_X5_141 rfl rfl (by decide) (by decide) rfl ?_
      refine pw_iload_n dX5_processOf_32 rfl ?_
      refine pw_aaldC (x := 45 + p) dX5_processOf_33 rfl (by decide) (by decide) (vp_in_nI (by omega) (by decide)) (by rw [nI_clamp (by omega)]; rfl) ?_
      refine pw_aret dX5_processOf_34 rfl (Or.inl ⟨_, rfl⟩) (by decide) (by decide) ?_
      exact ⟨_, rfl, rfl, rfl, rfl, rfl, rfl⟩
    · exact absurd (by rw [hI]; exact nI_lt hp (by omega)) h12
set_option maxRecDepth 100000 in
set_option maxHeartbeats 4000000 in
theorem c_processOf_x {c : Nat} (x : Int32) (I : pI) (J : pJ) (hx : ¬ (0 ≤ x ∧ x < nI c)) (hc : c ≤ 3) (hI : I 43 1 = nI c) : pMet yX5_processOf (pws yX5_processOf cX5_processOf 2 (some (.object "LockMuseum$Contender"))) { frames := 6, cells := 1, slots := 6, locals := 90 } [.ref 0, .int x] 84 I J pRs (pOx eA (fun I' J' => I' = I ∧ J' = J)) := by
  refine pMet_of (by decide) (Nat.le_of_ble_eq_true rfl) ?_
  refine pw_iload_n dX5_processOf_0 rfl ?_
  refine pw_if_lt (tgt := 15) dX5_processOf_1 (by decide) (fun h1 => ?_) (fun h1 => ?_)
  · refine pw_throw (k := 0) (E := "java/lang/IllegalArgumentException") (tx := tx_167) rfl wt_167 rfl rfl dX5_processOf_15 dX5_processOf_18 dX5_processOf_19 dX5_processOf_21 dX5_processOf_24 (by decide) (by decide) (by decide) (by decide) ?_
    exact ⟨rfl, rfl, rfl, rfl, rfl⟩
  · refine pw_iload_n dX5_processOf_4 rfl ?_
    refine pw_aload_n dX5_processOf_5 rfl ?_
    refine pw_getr dX5_processOf_6 fl_X5_19 rfl rfl (by decide) (by decide) rfl ?_
    refine pw_geti dX5_processOf_9 fl_X5_89 rfl rfl (by decide) (by decide) ?_
    refine pw_icmp_lt (tgt := 25) dX5_processOf_12 (by decide) (fun h12 => ?_) (fun h12 => ?_)
    · exact absurd ⟨Int32.not_lt.mp h1, by rw [← hI]; exact h12⟩ hx
    · refine pw_throw (k := 0) (E := "java/lang/IllegalArgumentException") (tx := tx_167) rfl wt_167 rfl rfl dX5_processOf_15 dX5_processOf_18 dX5_processOf_19 dX5_processOf_21 dX5_processOf_24 (by decide) (by decide) (by decide) (by decide) ?_
      exact ⟨rfl, rfl, rfl, rfl, rfl⟩
set_option maxRecDepth 100000 in
set_option maxHeartbeats 4000000 in
theorem c_want_x {c : Nat} (x : Int32) (I : pI) (J : pJ) (hx : ¬ (0 ≤ x ∧ x < nI c)) (hc : c ≤ 3) (hI : I 43 1 = nI c) : pMet yX5_want (pws yX5_want cX5_want 3 none) { frames := 7, cells := 2, slots := 12, locals := 111 } [.ref 0, .int x] 84 I J pRs (pOx eA (fun I' J' => I' = I ∧ J' = J)) := by
  refine pMet_of (by decide) (Nat.le_of_ble_eq_true rfl) ?_
  refine pw_aload_n dX5_want_0 rfl ?_
  refine pw_iload_n dX5_want_1 rfl ?_
  refine pw_cVx (ci := 5) (y := yX5_processOf) (cc := cX5_processOf) (nL := 2) (ret := (some (.object "LockMuseum$Contender"))) (rm := { frames := 6, cells := 1, slots := 6, locals := 90 }) dX5_want_2 (c_processOf_x _ _ _ hx hc hI) w_X5_75 rfl (by decide) rfl ⟨by decide, by decide⟩ (by decide) (by decide) rfl (Nat.le_of_ble_eq_true rfl) (fun I' J' h => ⟨rfl, rfl, rfl, h⟩)
set_option maxRecDepth 100000 in
set_option maxHeartbeats 4000000 in
theorem c_want_s {p c : Nat} (I : pI) (J : pJ) (hp : p < c) (hc : c ≤ 3) (hI : I 43 1 = nI c) (hw : ¬ I (45 + p) 0 = 0) : pMet yX5_want (pws yX5_want cX5_want 3 none) { frames := 7, cells := 2, slots := 12, locals := 111 } [.ref 0, .int (nI p)] 84 I J pRs (pOx eS (fun I' J' => I' = I ∧ J' = J)) := by
  refine pMet_of (by decide) (Nat.le_of_ble_eq_true rfl) ?_
  refine pw_aload_n dX5_want_0 rfl ?_
  refine pw_iload_n dX5_want_1 rfl ?_
  refine pw_cVr (ci := 5) (y := yX5_processOf) (cc := cX5_processOf) (nL := 2) (ret := (some (.object "LockMuseum$Contender"))) (rm := { frames := 6, cells := 1, slots := 6, locals := 90 }) dX5_want_2 (c_processOf _ _ hp hc hI) w_X5_75 rfl (by decide) rfl ⟨by decide, by decide⟩ (by decide) (by decide) rfl (Nat.le_of_ble_eq_true rfl) (fun x2 I2 J2 q2 => ?_)
  obtain ⟨rfl, rfl, rfl⟩ := rvq q2
  refine pw_astore_n dX5_want_5 (by decide) ?_
  refine pw_aload_n dX5_want_6 rfl ?_
  refine pw_geti dX5_want_7 fl_X5_79 rfl (pS_con (by omega)) (by omega) (by decide) ?_
  refine pw_if_eq (tgt := 23) dX5_want_10 (by decide) (fun h10 => ?_) (fun h10 => ?_)
  · exact absurd h10 hw
  · refine pw_throw (k := 1) (E := "java/lang/IllegalStateException") (tx := tx_86) rfl wt_86 rfl rfl dX5_want_13 dX5_want_16 dX5_want_17 dX5_want_19 dX5_want_22 (by decide) (by decide) (by decide) (by decide) ?_
    exact ⟨rfl, rfl, rfl, rfl, rfl⟩
set_option maxRecDepth 100000 in
set_option maxHeartbeats 4000000 in
theorem c_want {p c : Nat} (I : pI) (J : pJ) (hp : p < c) (hc : c ≤ 3) (hI : I 43 1 = nI c) (hw : I (45 + p) 0 = 0) : pMet yX5_want (pws yX5_want cX5_want 3 none) { frames := 7, cells := 2, slots := 12, locals := 111 } [.ref 0, .int (nI p)] 84 I J pRs (pOv (fun I' J' => I' = begI I (45 + p) (nI p) (nI c) ∧ J' = J)) := by
  refine pMet_of (by decide) (Nat.le_of_ble_eq_true rfl) ?_
  refine pw_aload_n dX5_want_0 rfl ?_
  refine pw_iload_n dX5_want_1 rfl ?_
  refine pw_cVr (ci := 5) (y := yX5_processOf) (cc := cX5_processOf) (nL := 2) (ret := (some (.object "LockMuseum$Contender"))) (rm := { frames := 6, cells := 1, slots := 6, locals := 90 }) dX5_want_2 (c_processOf _ _ hp hc hI) w_X5_75 rfl (by decide) rfl ⟨by decide, by decide⟩ (by decide) (by decide) rfl (Nat.le_of_ble_eq_true rfl) (fun x2 I2 J2 q2 => ?_)
  obtain ⟨rfl, rfl, rfl⟩ := rvq q2
  refine pw_astore_n dX5_want_5 (by decide) ?_
  refine pw_aload_n dX5_want_6 rfl ?_
  refine pw_geti dX5_want_7 fl_X5_79 rfl (pS_con (by omega)) (by omega) (by decide) ?_
  refine pw_if_eq (tgt := 23) dX5_want_10 (by decide) (fun h10 => ?_) (fun h10 => ?_)
  · refine pw_aload_n dX5_want_23 rfl ?_
    refine pw_iload_n dX5_want_24 rfl ?_
    refine pw_aload_n dX5_want_25 rfl ?_
    refine pw_getr dX5_want_26 fl_X5_19 rfl rfl (by decide) (by decide) rfl ?_
    refine pw_geti dX5_want_29 fl_X5_89 rfl rfl (by decide) (by decide) ?_
    refine pw_cVv (ci := 0) (y := yX0_begin) (cc := cX0_begin) (nL := 3) (ret := none) (rm := { frames := 1, cells := 0, slots := 0, locals := 23 }) dX5_want_32 (c_begin _ _ _ _ (pS_con (by omega)) (by omega)) w_X5_92 (pS_con (by omega)) (by omega) rfl ⟨by decide, by decide⟩ (by decide) (by decide) rfl (Nat.le_of_ble_eq_true rfl) (fun I32 J32 q32 => ?_)
    obtain ⟨rfl, rfl⟩ := rvv q32
    refine pw_vret dX5_want_35 rfl (by decide) (by decide) ?_
    exact ⟨rfl, rfl, rfl, by rw [begI, hI], rfl⟩
  · exact absurd hw h10
set_option maxRecDepth 100000 in
set_option maxHeartbeats 4000000 in
theorem c_step_x {c : Nat} (x : Int32) (I : pI) (J : pJ) (hx : ¬ (0 ≤ x ∧ x < nI c)) (hc : c ≤ 3) (hI : I 43 1 = nI c) : pMet yX5_step (pws yX5_step cX5_step 3 (some .int)) { frames := 7, cells := 2, slots := 12, locals := 111 } [.ref 0, .int x] 84 I J pRs (pOx eA (fun I' J' => I' = I ∧ J' = J)) := by
  refine pMet_of (by decide) (Nat.le_of_ble_eq_true rfl) ?_
  refine pw_aload_n dX5_step_0 rfl ?_
  refine pw_iload_n dX5_step_1 rfl ?_
  refine pw_cVx (ci := 5) (y := yX5_processOf) (cc := cX5_processOf) (nL := 2) (ret := (some (.object "LockMuseum$Contender"))) (rm := { frames := 6, cells := 1, slots := 6, locals := 90 }) dX5_step_2 (c_processOf_x _ _ _ hx hc hI) w_X5_75 rfl (by decide) rfl ⟨by decide, by decide⟩ (by decide) (by decide) rfl (Nat.le_of_ble_eq_true rfl) (fun I' J' h => ⟨rfl, rfl, rfl, h⟩)
set_option maxRecDepth 100000 in
set_option maxHeartbeats 4000000 in
theorem c_step_s {p c : Nat} (I : pI) (J : pJ) (hp : p < c) (hc : c ≤ 3) (hI : I 43 1 = nI c) (hw : ¬ (I (45 + p) 0 = 1 ∨ I (45 + p) 0 = 3)) : pMet yX5_step (pws yX5_step cX5_step 3 (some .int)) { frames := 7, cells := 2, slots := 12, locals := 111 } [.ref 0, .int (nI p)] 84 I J pRs (pOx eS (fun I' J' => I' = I ∧ J' = J)) := by
  refine pMet_of (by decide) (Nat.le_of_ble_eq_true rfl) ?_
  refine pw_aload_n dX5_step_0 rfl ?_
  refine pw_iload_n dX5_step_1 rfl ?_
  refine pw_cVr (ci := 5) (y := yX5_processOf) (cc := cX5_processOf) (nL := 2) (ret := (some (.object "LockMuseum$Contender"))) (rm := { frames := 6, cells := 1, slots := 6, locals := 90 }) dX5_step_2 (c_processOf _ _ hp hc hI) w_X5_75 rfl (by decide) rfl ⟨by decide, by decide⟩ (by decide) (by decide) rfl (Nat.le_of_ble_eq_true rfl) (fun x2 I2 J2 q2 => ?_)
  obtain ⟨rfl, rfl, rfl⟩ := rvq q2
  refine pw_astore_n dX5_step_5 (by decide) ?_
  refine pw_aload_n dX5_step_6 rfl ?_
  refine pw_geti dX5_step_7 fl_X5_79 rfl (pS_con (by omega)) (by omega) (by decide) ?_
  refine pw_iconst (v := 1) dX5_step_10 (by decide) ?_
  refine pw_icmp_eq (tgt := 32) dX5_step_11 (by decide) (fun h11 => ?_) (fun h11 => ?_)
  · exact absurd (Or.inl h11) hw
  · refine pw_aload_n dX5_step_14 rfl ?_
    refine pw_geti dX5_step_15 fl_X5_79 rfl (pS_con (by omega)) (by omega) (by decide) ?_
    refine pw_iconst (v := 3) dX5_step_18 (by decide) ?_
    refine pw_icmp_eq (tgt := 32) dX5_step_19 (by decide) (fun h19 => ?_) (fun h19 => ?_)
    · exact absurd (Or.inr h19) hw
    · refine pw_throw (k := 1) (E := "java/lang/IllegalStateException") (tx := tx_95) rfl wt_95 rfl rfl dX5_step_22 dX5_step_25 dX5_step_26 dX5_step_28 dX5_step_31 (by decide) (by decide) (by decide) (by decide) ?_
      exact ⟨rfl, rfl, rfl, rfl, rfl⟩
set_option maxRecDepth 100000 in
set_option maxHeartbeats 4000000 in
theorem c_step {p c : Nat} (I : pI) (J : pJ) (hp : p < c) (hc : c ≤ 3) (hI : I 43 1 = nI c) (hPV : PV I) (hpl : ∃ q, q ≤ 40 ∧ I (45 + p) 1 = nI q) (hw : I (45 + p) 0 = 1 ∨ I (45 + p) 0 = 3) : pMet yX5_step (pws yX5_step cX5_step 3 (some .int)) { frames := 7, cells := 2, slots := 12, locals := 111 } [.ref 0, .int (nI p)] 84 I J pRs (pOi (fun r I' J' => r = adv I 43 p c (45 + p) 0 ∧ I' = adv I 43 p c ∧ J' = J)) := by
  refine pMet_of (by decide) (Nat.le_of_ble_eq_true rfl) ?_
  refine pw_aload_n dX5_step_0 rfl ?_
  refine pw_iload_n dX5_step_1 rfl ?_
  refine pw_cVr (ci := 5) (y := yX5_processOf) (cc := cX5_processOf) (nL := 2) (ret := (some (.object "LockMuseum$Contender"))) (rm := { frames := 6, cells := 1, slots := 6, locals := 90 }) dX5_step_2 (c_processOf _ _ hp hc hI) w_X5_75 rfl (by decide) rfl ⟨by decide, by decide⟩ (by decide) (by decide) rfl (Nat.le_of_ble_eq_true rfl) (fun x2 I2 J2 q2 => ?_)
  obtain ⟨rfl, rfl, rfl⟩ := rvq q2
  refine pw_astore_n dX5_step_5 (by decide) ?_
  refine pw_aload_n dX5_step_6 rfl ?_
  refine pw_geti dX5_step_7 fl_X5_79 rfl (pS_con (by omega)) (by omega) (by decide) ?_
  refine pw_iconst (v := 1) dX5_step_10 (by decide) ?_
  refine pw_icmp_eq (tgt := 32) dX5_step_11 (by decide) (fun h11 => ?_) (fun h11 => ?_)
  · refine pw_aload_n dX5_step_32 rfl ?_
    refine pw_getr dX5_step_33 fl_X5_19 rfl rfl (by decide) (by decide) rfl ?_
    refine pw_iload_n dX5_step_36 rfl ?_
    refine pw_aload_n dX5_step_37 rfl ?_
    refine pw_getr dX5_step_38 fl_X5_10 rfl rfl (by decide) (by decide) rfl ?_
    refine pw_cVv (ci := 1) (y := yX1_advance) (cc := cX1_advance) (nL := 6) (ret := none) (rm := { frames := 2, cells := 0, slots := 0, locals := 50 }) dX5_step_41 (c_advance _ _ (Or.inl rfl) (by omega) hc hPV hpl hI) w_X5_97 rfl (by decide) rfl ⟨by decide, by decide⟩ (by decide) (by decide) rfl (Nat.le_of_ble_eq_true rfl) (fun I41 J41 q41 => ?_)
    obtain ⟨rfl, rfl⟩ := rvv q41
    refine pw_aload_n dX5_step_44 rfl ?_
    refine pw_geti dX5_step_45 fl_X5_79 rfl (pS_con (by omega)) (by omega) (by decide) ?_
    refine pw_iret dX5_step_48 rfl rfl (by decide) (by decide) ?_
    exact ⟨_, rfl, rfl, rfl, rfl, rfl, rfl⟩
  · refine pw_aload_n dX5_step_14 rfl ?_
    refine pw_geti dX5_step_15 fl_X5_79 rfl (pS_con (by omega)) (by omega) (by decide) ?_
    refine pw_iconst (v := 3) dX5_step_18 (by decide) ?_
    refine pw_icmp_eq (tgt := 32) dX5_step_19 (by decide) (fun h19 => ?_) (fun h19 => ?_)
    · refine pw_aload_n dX5_step_32 rfl ?_
      refine pw_getr dX5_step_33 fl_X5_19 rfl rfl (by decide) (by decide) rfl ?_
      refine pw_iload_n dX5_step_36 rfl ?_
      refine pw_aload_n dX5_step_37 rfl ?_
      refine pw_getr dX5_step_38 fl_X5_10 rfl rfl (by decide) (by decide) rfl ?_
      refine pw_cVv (ci := 1) (y := yX1_advance) (cc := cX1_advance) (nL := 6) (ret := none) (rm := { frames := 2, cells := 0, slots := 0, locals := 50 }) dX5_step_41 (c_advance _ _ (Or.inl rfl) (by omega) hc hPV hpl hI) w_X5_97 rfl (by decide) rfl ⟨by decide, by decide⟩ (by decide) (by decide) rfl (Nat.le_of_ble_eq_true rfl) (fun I41_1 J41_1 q41_1 => ?_)
      obtain ⟨rfl, rfl⟩ := rvv q41_1
      refine pw_aload_n dX5_step_44 rfl ?_
      refine pw_geti dX5_step_45 fl_X5_79 rfl (pS_con (by omega)) (by omega) (by decide) ?_
      refine pw_iret dX5_step_48 rfl rfl (by decide) (by decide) ?_
      exact ⟨_, rfl, rfl, rfl, rfl, rfl, rfl⟩
    · exact absurd hw (fun z => z.elim h11 h19)
set_option maxRecDepth 100000 in
set_option maxHeartbeats 4000000 in
theorem c_leave_x {c : Nat} (x : Int32) (I : pI) (J : pJ) (hx : ¬ (0 ≤ x ∧ x < nI c)) (hc : c ≤ 3) (hI : I 43 1 = nI c) : pMet yX5_leave (pws yX5_leave cX5_leave 3 none) { frames := 7, cells := 2, slots := 12, locals := 111 } [.ref 0, .int x] 84 I J pRs (pOx eA (fun I' J' => I' = I ∧ J' = J)) := by
  refine pMet_of (by decide) (Nat.le_of_ble_eq_true rfl) ?_
  refine pw_aload_n dX5_leave_0 rfl ?_
  refine pw_iload_n dX5_leave_1 rfl ?_
  refine pw_cVx (ci := 5) (y := yX5_processOf) (cc := cX5_processOf) (nL := 2) (ret := (some (.object "LockMuseum$Contender"))) (rm := { frames := 6, cells := 1, slots := 6, locals := 90 }) dX5_leave_2 (c_processOf_x _ _ _ hx hc hI) w_X5_75 rfl (by decide) rfl ⟨by decide, by decide⟩ (by decide) (by decide) rfl (Nat.le_of_ble_eq_true rfl) (fun I' J' h => ⟨rfl, rfl, rfl, h⟩)
set_option maxRecDepth 100000 in
set_option maxHeartbeats 4000000 in
theorem c_leave_s {p c : Nat} (I : pI) (J : pJ) (hp : p < c) (hc : c ≤ 3) (hI : I 43 1 = nI c) (hw : ¬ I (45 + p) 0 = 2) : pMet yX5_leave (pws yX5_leave cX5_leave 3 none) { frames := 7, cells := 2, slots := 12, locals := 111 } [.ref 0, .int (nI p)] 84 I J pRs (pOx eS (fun I' J' => I' = I ∧ J' = J)) := by
  refine pMet_of (by decide) (Nat.le_of_ble_eq_true rfl) ?_
  refine pw_aload_n dX5_leave_0 rfl ?_
  refine pw_iload_n dX5_leave_1 rfl ?_
  refine pw_cVr (ci := 5) (y := yX5_processOf) (cc := cX5_processOf) (nL := 2) (ret := (some (.object "LockMuseum$Contender"))) (rm := { frames := 6, cells := 1, slots := 6, locals := 90 }) dX5_leave_2 (c_processOf _ _ hp hc hI) w_X5_75 rfl (by decide) rfl ⟨by decide, by decide⟩ (by decide) (by decide) rfl (Nat.le_of_ble_eq_true rfl) (fun x2 I2 J2 q2 => ?_)
  obtain ⟨rfl, rfl, rfl⟩ := rvq q2
  refine pw_astore_n dX5_leave_5 (by decide) ?_
  refine pw_aload_n dX5_leave_6 rfl ?_
  refine pw_geti dX5_leave_7 fl_X5_79 rfl (pS_con (by omega)) (by omega) (by decide) ?_
  refine pw_iconst (v := 2) dX5_leave_10 (by decide) ?_
  refine pw_icmp_eq (tgt := 24) dX5_leave_11 (by decide) (fun h11 => ?_) (fun h11 => ?_)
  · exact absurd h11 hw
  · refine pw_throw (k := 1) (E := "java/lang/IllegalStateException") (tx := tx_101) rfl wt_101 rfl rfl dX5_leave_14 dX5_leave_17 dX5_leave_18 dX5_leave_20 dX5_leave_23 (by decide) (by decide) (by decide) (by decide) ?_
    exact ⟨rfl, rfl, rfl, rfl, rfl⟩
set_option maxRecDepth 100000 in
set_option maxHeartbeats 4000000 in
theorem c_leave {p c : Nat} (I : pI) (J : pJ) (hp : p < c) (hc : c ≤ 3) (hI : I 43 1 = nI c) (hw : I (45 + p) 0 = 2) : pMet yX5_leave (pws yX5_leave cX5_leave 3 none) { frames := 7, cells := 2, slots := 12, locals := 111 } [.ref 0, .int (nI p)] 84 I J pRs (pOv (fun I' J' => I' = upI I (45 + p) 0 3 ∧ J' = J)) := by
  refine pMet_of (by decide) (Nat.le_of_ble_eq_true rfl) ?_
  refine pw_aload_n dX5_leave_0 rfl ?_
  refine pw_iload_n dX5_leave_1 rfl ?_
  refine pw_cVr (ci := 5) (y := yX5_processOf) (cc := cX5_processOf) (nL := 2) (ret := (some (.object "LockMuseum$Contender"))) (rm := { frames := 6, cells := 1, slots := 6, locals := 90 }) dX5_leave_2 (c_processOf _ _ hp hc hI) w_X5_75 rfl (by decide) rfl ⟨by decide, by decide⟩ (by decide) (by decide) rfl (Nat.le_of_ble_eq_true rfl) (fun x2 I2 J2 q2 => ?_)
  obtain ⟨rfl, rfl, rfl⟩ := rvq q2
  refine pw_astore_n dX5_leave_5 (by decide) ?_
  refine pw_aload_n dX5_leave_6 rfl ?_
  refine pw_geti dX5_leave_7 fl_X5_79 rfl (pS_con (by omega)) (by omega) (by decide) ?_
  refine pw_iconst (v := 2) dX5_leave_10 (by decide) ?_
  refine pw_icmp_eq (tgt := 24) dX5_leave_11 (by decide) (fun h11 => ?_) (fun h11 => ?_)
  · refine pw_aload_n dX5_leave_24 rfl ?_
    refine pw_iconst (v := 3) dX5_leave_25 (by decide) ?_
    refine pw_puti dX5_leave_26 fl_X5_79 rfl rfl rfl rfl (pS_con (by omega)) (by omega) (by decide) ?_
    refine pw_vret dX5_leave_29 rfl (by decide) (by decide) ?_
    exact ⟨rfl, rfl, rfl, rfl, rfl⟩
  · exact absurd hw h11
set_option maxRecDepth 100000 in
set_option maxHeartbeats 4000000 in
theorem c_word {i : Nat} (I : pI) (J : pJ) (hi : i < 8) : pMet yX5_word (pws yX5_word cX5_word 2 (some .int)) { frames := 6, cells := 1, slots := 6, locals := 90 } [.ref 0, .int (nI i)] 84 I J pRs (pOi (fun r I' J' => r = nib (I 43 2) (nI i) ∧ I' = I ∧ J' = J)) := by
  refine pMet_of (by decide) (Nat.le_of_ble_eq_true rfl) ?_
  refine pw_iload_n dX5_word_0 rfl ?_
  refine pw_if_lt (tgt := 10) dX5_word_1 (by decide) (fun h1 => ?_) (fun h1 => ?_)
  · exact absurd h1 (nI_pos (by omega))
  · refine pw_iload_n dX5_word_4 rfl ?_
    refine pw_bipush (v := 8) dX5_word_5 (by decide) ?_
    refine pw_icmp_lt (tgt := 20) dX5_word_7 (by decide) (fun h7 => ?_) (fun h7 => ?_)
    · refine pw_aload_n dX5_word_20 rfl ?_
      refine pw_getr dX5_word_21 fl_X5_19 rfl rfl (by decide) (by decide) rfl ?_
      refine pw_geti dX5_word_24 fl_X5_108 rfl rfl (by decide) (by decide) ?_
      refine pw_iload_n dX5_word_27 rfl ?_
      refine pw_cSi (y := yX5_nibble) (cc := cX5_nibble) (nL := 2) (ret := (some .int)) (rm := { frames := 0, cells := 0, slots := 0, locals := 0 }) dX5_word_28 (c_nibble _ _ _ _) w_X5_111 rfl ⟨by decide, by decide⟩ (by decide) (by decide) rfl (Nat.le_of_ble_eq_true rfl) (fun x28 I28 J28 q28 => ?_)
      obtain ⟨rfl, rfl, rfl⟩ := rvq q28
      refine pw_iret dX5_word_31 rfl rfl (by decide) (by decide) ?_
      exact ⟨_, rfl, rfl, rfl, rfl, rfl, rfl⟩
    · exact absurd (nI_lt (b := 8) hi (by decide)) h7
set_option maxRecDepth 100000 in
set_option maxHeartbeats 4000000 in
theorem c_word_x (x : Int32) (I : pI) (J : pJ) (hx : ¬ (0 ≤ x ∧ x < 8)) : pMet yX5_word (pws yX5_word cX5_word 2 (some .int)) { frames := 6, cells := 1, slots := 6, locals := 90 } [.ref 0, .int x] 84 I J pRs (pOx eB (fun I' J' => I' = I ∧ J' = J)) := by
  refine pMet_of (by decide) (Nat.le_of_ble_eq_true rfl) ?_
  refine pw_iload_n dX5_word_0 rfl ?_
  refine pw_if_lt (tgt := 10) dX5_word_1 (by decide) (fun h1 => ?_) (fun h1 => ?_)
  · refine pw_throw (k := 2) (E := "java/lang/IndexOutOfBoundsException") (tx := tx_105) rfl wt_105 rfl rfl dX5_word_10 dX5_word_13 dX5_word_14 dX5_word_16 dX5_word_19 (by decide) (by decide) (by decide) (by decide) ?_
    exact ⟨rfl, rfl, rfl, rfl, rfl⟩
  · refine pw_iload_n dX5_word_4 rfl ?_
    refine pw_bipush (v := 8) dX5_word_5 (by decide) ?_
    refine pw_icmp_lt (tgt := 20) dX5_word_7 (by decide) (fun h7 => ?_) (fun h7 => ?_)
    · exact absurd ⟨Int32.not_lt.mp h1, h7⟩ hx
    · refine pw_throw (k := 2) (E := "java/lang/IndexOutOfBoundsException") (tx := tx_105) rfl wt_105 rfl rfl dX5_word_10 dX5_word_13 dX5_word_14 dX5_word_16 dX5_word_19 (by decide) (by decide) (by decide) (by decide) ?_
      exact ⟨rfl, rfl, rfl, rfl, rfl⟩
set_option maxRecDepth 100000 in
set_option maxHeartbeats 4000000 in
theorem c_register_x {c : Nat} (x : Int32) (r : Int32) (I : pI) (J : pJ) (hx : ¬ (0 ≤ x ∧ x < nI c)) (hc : c ≤ 3) (hI : I 43 1 = nI c) : pMet yX5_register (pws yX5_register cX5_register 4 (some .int)) { frames := 7, cells := 2, slots := 12, locals := 111 } [.ref 0, .int x, .int r] 84 I J pRs (pOx eA (fun I' J' => I' = I ∧ J' = J)) := by
  refine pMet_of (by decide) (Nat.le_of_ble_eq_true rfl) ?_
  refine pw_aload_n dX5_register_0 rfl ?_
  refine pw_iload_n dX5_register_1 rfl ?_
  refine pw_cVx (ci := 5) (y := yX5_processOf) (cc := cX5_processOf) (nL := 2) (ret := (some (.object "LockMuseum$Contender"))) (rm := { frames := 6, cells := 1, slots := 6, locals := 90 }) dX5_register_2 (c_processOf_x _ _ _ hx hc hI) w_X5_75 rfl (by decide) rfl ⟨by decide, by decide⟩ (by decide) (by decide) rfl (Nat.le_of_ble_eq_true rfl) (fun I' J' h => ⟨rfl, rfl, rfl, h⟩)
set_option maxRecDepth 100000 in
set_option maxHeartbeats 4000000 in
theorem c_register_b {p c : Nat} (r : Int32) (I : pI) (J : pJ) (hp : p < c) (hc : c ≤ 3) (hI : I 43 1 = nI c) (hr : ¬ (0 ≤ r ∧ r < 6)) : pMet yX5_register (pws yX5_register cX5_register 4 (some .int)) { frames := 7, cells := 2, slots := 12, locals := 111 } [.ref 0, .int (nI p), .int r] 84 I J pRs (pOx eB (fun I' J' => I' = I ∧ J' = J)) := by
  refine pMet_of (by decide) (Nat.le_of_ble_eq_true rfl) ?_
  refine pw_aload_n dX5_register_0 rfl ?_
  refine pw_iload_n dX5_register_1 rfl ?_
  refine pw_cVr (ci := 5) (y := yX5_processOf) (cc := cX5_processOf) (nL := 2) (ret := (some (.object "LockMuseum$Contender"))) (rm := { frames := 6, cells := 1, slots := 6, locals := 90 }) dX5_register_2 (c_processOf _ _ hp hc hI) w_X5_75 rfl (by decide) rfl ⟨by decide, by decide⟩ (by decide) (by decide) rfl (Nat.le_of_ble_eq_true rfl) (fun x2 I2 J2 q2 => ?_)
  obtain ⟨rfl, rfl, rfl⟩ := rvq q2
  refine pw_astore_n dX5_register_5 (by decide) ?_
  refine pw_iload_n dX5_register_6 rfl ?_
  refine pw_if_lt (tgt := 16) dX5_register_7 (by decide) (fun h7 => ?_) (fun h7 => ?_)
  · refine pw_throw (k := 2) (E := "java/lang/IndexOutOfBoundsException") (tx := tx_115) rfl wt_115 rfl rfl dX5_register_16 dX5_register_19 dX5_register_20 dX5_register_22 dX5_register_25 (by decide) (by decide) (by decide) (by decide) ?_
    exact ⟨rfl, rfl, rfl, rfl, rfl⟩
  · refine pw_iload_n dX5_register_10 rfl ?_
    refine pw_bipush (v := 6) dX5_register_11 (by decide) ?_
    refine pw_icmp_lt (tgt := 26) dX5_register_13 (by decide) (fun h13 => ?_) (fun h13 => ?_)
    · exact absurd ⟨Int32.not_lt.mp h7, h13⟩ hr
    · refine pw_throw (k := 2) (E := "java/lang/IndexOutOfBoundsException") (tx := tx_115) rfl wt_115 rfl rfl dX5_register_16 dX5_register_19 dX5_register_20 dX5_register_22 dX5_register_25 (by decide) (by decide) (by decide) (by decide) ?_
      exact ⟨rfl, rfl, rfl, rfl, rfl⟩
set_option maxRecDepth 100000 in
set_option maxHeartbeats 4000000 in
theorem c_register {p c i : Nat} (I : pI) (J : pJ) (hp : p < c) (hc : c ≤ 3) (hI : I 43 1 = nI c) (hi : i < 6) : pMet yX5_register (pws yX5_register cX5_register 4 (some .int)) { frames := 7, cells := 2, slots := 12, locals := 111 } [.ref 0, .int (nI p), .int (nI i)] 84 I J pRs (pOi (fun r I' J' => r = nib (I (45 + p) 2) (nI i) ∧ I' = I ∧ J' = J)) := by
  refine pMet_of (by decide) (Nat.le_of_ble_eq_true rfl) ?_
  refine pw_aload_n dX5_register_0 rfl ?_
  refine pw_iload_n dX5_register_1 rfl ?_
  refine pw_cVr (ci := 5) (y := yX5_processOf) (cc := cX5_processOf) (nL := 2) (ret := (some (.object "LockMuseum$Contender"))) (rm := { frames := 6, cells := 1, slots := 6, locals := 90 }) dX5_register_2 (c_processOf _ _ hp hc hI) w_X5_75 rfl (by decide) rfl ⟨by decide, by decide⟩ (by decide) (by decide) rfl (Nat.le_of_ble_eq_true rfl) (fun x2 I2 J2 q2 => ?_)
  obtain ⟨rfl, rfl, rfl⟩ := rvq q2
  refine pw_astore_n dX5_register_5 (by decide) ?_
  refine pw_iload_n dX5_register_6 rfl ?_
  refine pw_if_lt (tgt := 16) dX5_register_7 (by decide) (fun h7 => ?_) (fun h7 => ?_)
  · exact absurd h7 (nI_pos (by omega))
  · refine pw_iload_n dX5_register_10 rfl ?_
    refine pw_bipush (v := 6) dX5_register_11 (by decide) ?_
    refine pw_icmp_lt (tgt := 26) dX5_register_13 (by decide) (fun h13 => ?_) (fun h13 => ?_)
    · refine pw_aload_n dX5_register_26 rfl ?_
      refine pw_geti dX5_register_27 fl_X5_117 rfl (pS_con (by omega)) (by omega) (by decide) ?_
      refine pw_iload_n dX5_register_30 rfl ?_
      refine pw_cSi (y := yX5_nibble) (cc := cX5_nibble) (nL := 2) (ret := (some .int)) (rm := { frames := 0, cells := 0, slots := 0, locals := 0 }) dX5_register_31 (c_nibble _ _ _ _) w_X5_111 rfl ⟨by decide, by decide⟩ (by decide) (by decide) rfl (Nat.le_of_ble_eq_true rfl) (fun x31 I31 J31 q31 => ?_)
      obtain ⟨rfl, rfl, rfl⟩ := rvq q31
      refine pw_iret dX5_register_34 rfl rfl (by decide) (by decide) ?_
      exact ⟨_, rfl, rfl, rfl, rfl, rfl, rfl⟩
    · exact absurd (nI_lt (b := 6) hi (by decide)) h13
set_option maxRecDepth 100000 in
set_option maxHeartbeats 4000000 in
theorem c_about_x {c : Nat} (x : Int32) (r : Int32) (I : pI) (J : pJ) (hx : ¬ (0 ≤ x ∧ x < nI c)) (hc : c ≤ 3) (hI : I 43 1 = nI c) : pMet yX5_about (pws yX5_about cX5_about 4 (some .int)) { frames := 7, cells := 2, slots := 12, locals := 111 } [.ref 0, .int x, .int r] 84 I J pRs (pOx eA (fun I' J' => I' = I ∧ J' = J)) := by
  refine pMet_of (by decide) (Nat.le_of_ble_eq_true rfl) ?_
  refine pw_aload_n dX5_about_0 rfl ?_
  refine pw_iload_n dX5_about_1 rfl ?_
  refine pw_cVx (ci := 5) (y := yX5_processOf) (cc := cX5_processOf) (nL := 2) (ret := (some (.object "LockMuseum$Contender"))) (rm := { frames := 6, cells := 1, slots := 6, locals := 90 }) dX5_about_2 (c_processOf_x _ _ _ hx hc hI) w_X5_75 rfl (by decide) rfl ⟨by decide, by decide⟩ (by decide) (by decide) rfl (Nat.le_of_ble_eq_true rfl) (fun I' J' h => ⟨rfl, rfl, rfl, h⟩)
set_option maxRecDepth 100000 in
set_option maxHeartbeats 4000000 in
theorem c_about_b {p c : Nat} (r : Int32) (I : pI) (J : pJ) (hp : p < c) (hc : c ≤ 3) (hI : I 43 1 = nI c) (hr : ¬ (0 ≤ r ∧ r < 5)) : pMet yX5_about (pws yX5_about cX5_about 4 (some .int)) { frames := 7, cells := 2, slots := 12, locals := 111 } [.ref 0, .int (nI p), .int r] 84 I J pRs (pOx eA (fun I' J' => I' = I ∧ J' = J)) := by
  refine pMet_of (by decide) (Nat.le_of_ble_eq_true rfl) ?_
  refine pw_aload_n dX5_about_0 rfl ?_
  refine pw_iload_n dX5_about_1 rfl ?_
  refine pw_cVr (ci := 5) (y := yX5_processOf) (cc := cX5_processOf) (nL := 2) (ret := (some (.object "LockMuseum$Contender"))) (rm := { frames := 6, cells := 1, slots := 6, locals := 90 }) dX5_about_2 (c_processOf _ _ hp hc hI) w_X5_75 rfl (by decide) rfl ⟨by decide, by decide⟩ (by decide) (by decide) rfl (Nat.le_of_ble_eq_true rfl) (fun x2 I2 J2 q2 => ?_)
  obtain ⟨rfl, rfl, rfl⟩ := rvq q2
  refine pw_astore_n dX5_about_5 (by decide) ?_
  refine pw_iload_n dX5_about_6 rfl ?_
  refine pw_if_lt (tgt := 15) dX5_about_7 (by decide) (fun h7 => ?_) (fun h7 => ?_)
  · refine pw_throw (k := 0) (E := "java/lang/IllegalArgumentException") (tx := tx_120) rfl wt_120 rfl rfl dX5_about_15 dX5_about_18 dX5_about_19 dX5_about_21 dX5_about_24 (by decide) (by decide) (by decide) (by decide) ?_
    exact ⟨rfl, rfl, rfl, rfl, rfl⟩
  · refine pw_iload_n dX5_about_10 rfl ?_
    refine pw_iconst (v := 5) dX5_about_11 (by decide) ?_
    refine pw_icmp_lt (tgt := 25) dX5_about_12 (by decide) (fun h12 => ?_) (fun h12 => ?_)
    · exact absurd ⟨Int32.not_lt.mp h7, h12⟩ hr
    · refine pw_throw (k := 0) (E := "java/lang/IllegalArgumentException") (tx := tx_120) rfl wt_120 rfl rfl dX5_about_15 dX5_about_18 dX5_about_19 dX5_about_21 dX5_about_24 (by decide) (by decide) (by decide) (by decide) ?_
      exact ⟨rfl, rfl, rfl, rfl, rfl⟩
def abV (I : pI) (a : Nat) (w : Int32) : Int32 := if w = 0 then I a 0 else if w = 1 then I a 1 else if w = 2 then (if I a 3 = 0 then 0 else 1) else if w = 3 then I a 4 else I a 5
set_option maxRecDepth 100000 in
set_option maxHeartbeats 4000000 in
theorem c_about {p c : Nat} (w : Int32) (I : pI) (J : pJ) (hp : p < c) (hc : c ≤ 3) (hI : I 43 1 = nI c) (hw : 0 ≤ w ∧ w < 5) : pMet yX5_about (pws yX5_about cX5_about 4 (some .int)) { frames := 7, cells := 2, slots := 12, locals := 111 } [.ref 0, .int (nI p), .int w] 84 I J pRs (pOi (fun r I' J' => r = abV I (45 + p) w ∧ I' = I ∧ J' = J)) := by
  refine pMet_of (by decide) (Nat.le_of_ble_eq_true rfl) ?_
  refine pw_aload_n dX5_about_0 rfl ?_
  refine pw_iload_n dX5_about_1 rfl ?_
  refine pw_cVr (ci := 5) (y := yX5_processOf) (cc := cX5_processOf) (nL := 2) (ret := (some (.object "LockMuseum$Contender"))) (rm := { frames := 6, cells := 1, slots := 6, locals := 90 }) dX5_about_2 (c_processOf _ _ hp hc hI) w_X5_75 rfl (by decide) rfl ⟨by decide, by decide⟩ (by decide) (by decide) rfl (Nat.le_of_ble_eq_true rfl) (fun x2 I2 J2 q2 => ?_)
  obtain ⟨rfl, rfl, rfl⟩ := rvq q2
  refine pw_astore_n dX5_about_5 (by decide) ?_
  refine pw_iload_n dX5_about_6 rfl ?_
  refine pw_if_lt (tgt := 15) dX5_about_7 (by decide) (fun h7 => ?_) (fun h7 => ?_)
  · exact absurd h7 (Int32.not_lt.mpr hw.1)
  · refine pw_iload_n dX5_about_10 rfl ?_
    refine pw_iconst (v := 5) dX5_about_11 (by decide) ?_
    refine pw_icmp_lt (tgt := 25) dX5_about_12 (by decide) (fun h12 => ?_) (fun h12 => ?_)
    · refine pw_iload_n dX5_about_25 rfl ?_
      refine pw_tsw dX5_about_26 (fun i26 hi26 s26 => ?_) (fun o26 => ?_)
      · rcases (show i26 = 0 ∨ i26 = 1 ∨ i26 = 2 ∨ i26 = 3 by omega) with rfl | rfl | rfl | rfl
        · replace s26 := s26.trans (show _ = (0 : Int32) by decide)
          refine ⟨_, 56, rfl, by decide, ?_⟩
          refine pw_aload_n dX5_about_56 rfl ?_
          refine pw_geti dX5_about_57 fl_X5_79 rfl (pS_con (by omega)) (by omega) (by decide) ?_
          refine pw_iret dX5_about_60 rfl rfl (by decide) (by decide) ?_
          exact ⟨_, rfl, rfl, rfl, by first | (simp [abV, s26, h70]; done) | (simp [abV, s26]; done) | simp [abV, n0, n1, n2, n3], rfl, rfl⟩
        · replace s26 := s26.trans (show _ = (1 : Int32) by decide)
          refine ⟨_, 61, rfl, by decide, ?_⟩
          refine pw_aload_n dX5_about_61 rfl ?_
          refine pw_geti dX5_about_62 fl_X5_122 rfl (pS_con (by omega)) (by omega) (by decide) ?_
          refine pw_iret dX5_about_65 rfl rfl (by decide) (by decide) ?_
          exact ⟨_, rfl, rfl, rfl, by first | (simp [abV, s26, h70]; done) | (simp [abV, s26]; done) | simp [abV, n0, n1, n2, n3], rfl, rfl⟩
        · replace s26 := s26.trans (show _ = (2 : Int32) by decide)
          refine ⟨_, 66, rfl, by decide, ?_⟩
          refine pw_aload_n dX5_about_66 rfl ?_
          refine pw_geti dX5_about_67 fl_X5_125 rfl (pS_con (by omega)) (by omega) (by decide) ?_
          refine pw_if_eq (tgt := 77) dX5_about_70 (by decide) (fun h70 => ?_) (fun h70 => ?_)
          · refine pw_iconst (v := 0) dX5_about_77 (by decide) ?_
            refine pw_iret dX5_about_78 rfl rfl (by decide) (by decide) ?_
            exact ⟨_, rfl, rfl, rfl, by first | (simp [abV, s26, h70]; done) | (simp [abV, s26]; done) | simp [abV, n0, n1, n2, n3], rfl, rfl⟩
          · refine pw_iconst (v := 1) dX5_about_73 (by decide) ?_
            refine pw_goto (tgt := 78) dX5_about_74 (by decide) ?_
            refine pw_iret dX5_about_78 rfl rfl (by decide) (by decide) ?_
            exact ⟨_, rfl, rfl, rfl, by first | (simp [abV, s26, h70]; done) | (simp [abV, s26]; done) | simp [abV, n0, n1, n2, n3], rfl, rfl⟩
        · replace s26 := s26.trans (show _ = (3 : Int32) by decide)
          refine ⟨_, 79, rfl, by decide, ?_⟩
          refine pw_aload_n dX5_about_79 rfl ?_
          refine pw_geti dX5_about_80 fl_X5_129 rfl (pS_con (by omega)) (by omega) (by decide) ?_
          refine pw_iret dX5_about_83 rfl rfl (by decide) (by decide) ?_
          exact ⟨_, rfl, rfl, rfl, by first | (simp [abV, s26, h70]; done) | (simp [abV, s26]; done) | simp [abV, n0, n1, n2, n3], rfl, rfl⟩
      · refine ⟨84, by decide, ?_⟩
        have n0 : ¬ w = 0 := fun e => by rw [e] at o26; revert o26; decide
        have n1 : ¬ w = 1 := fun e => by rw [e] at o26; revert o26; decide
        have n2 : ¬ w = 2 := fun e => by rw [e] at o26; revert o26; decide
        have n3 : ¬ w = 3 := fun e => by rw [e] at o26; revert o26; decide
        refine pw_aload_n dX5_about_84 rfl ?_
        refine pw_geti dX5_about_85 fl_X5_132 rfl (pS_con (by omega)) (by omega) (by decide) ?_
        refine pw_iret dX5_about_88 rfl rfl (by decide) (by decide) ?_
        exact ⟨_, rfl, rfl, rfl, by first | (simp [abV, s26, h70]; done) | (simp [abV, s26]; done) | simp [abV, n0, n1, n2, n3], rfl, rfl⟩
    · exact absurd hw.2 h12
set_option maxRecDepth 100000 in
set_option maxHeartbeats 4000000 in
theorem c_states (I : pI) (J : pJ) : pMet yX5_states (pws yX5_states cX5_states 1 (some .int)) { frames := 0, cells := 0, slots := 0, locals := 0 } [.ref 0] 84 I J pRs (pOi (fun r I' J' => r = I 48 2 ∧ I' = I ∧ J' = J)) := by
  refine pMet_of (by decide) (Nat.le_of_ble_eq_true rfl) ?_
  refine pw_aload_n dX5_states_0 rfl ?_
  refine pw_getr dX5_states_1 fl_X5_26 rfl rfl (by decide) (by decide) rfl ?_
  refine pw_geti dX5_states_4 fl_X5_151 rfl rfl (by decide) (by decide) ?_
  refine pw_iret dX5_states_7 rfl rfl (by decide) (by decide) ?_
  exact ⟨_, rfl, rfl, rfl, rfl, rfl, rfl⟩
set_option maxRecDepth 100000 in
set_option maxHeartbeats 4000000 in
theorem c_trail_n (I : pI) (J : pJ) : pMet yX5_trail (pws yX5_trail cX5_trail 2 (some .int)) { frames := 6, cells := 1, slots := 6, locals := 90 } [.ref 0, .int (-1)] 84 I J pRs (pOi (fun r I' J' => r = I 48 1 ∧ I' = I ∧ J' = J)) := by
  refine pMet_of (by decide) (Nat.le_of_ble_eq_true rfl) ?_
  refine pw_iload_n dX5_trail_0 rfl ?_
  refine pw_iconst (v := (-1)) dX5_trail_1 (by decide) ?_
  refine pw_icmp_ne (tgt := 13) dX5_trail_2 (by decide) (fun h2 => ?_) (fun h2 => ?_)
  · exact absurd rfl h2
  · refine pw_aload_n dX5_trail_5 rfl ?_
    refine pw_getr dX5_trail_6 fl_X5_26 rfl rfl (by decide) (by decide) rfl ?_
    refine pw_geti dX5_trail_9 fl_X5_154 rfl rfl (by decide) (by decide) ?_
    refine pw_iret dX5_trail_12 rfl rfl (by decide) (by decide) ?_
    exact ⟨_, rfl, rfl, rfl, rfl, rfl, rfl⟩
set_option maxRecDepth 100000 in
set_option maxHeartbeats 4000000 in
theorem c_trail {i n : Nat} (I : pI) (J : pJ) (hi : i < n) (hn : n ≤ 3000) (hI : I 48 1 = nI n) : pMet yX5_trail (pws yX5_trail cX5_trail 2 (some .int)) { frames := 6, cells := 1, slots := 6, locals := 90 } [.ref 0, .int (nI i)] 84 I J pRs (pOi (fun r I' J' => r = I 49 i ∧ I' = I ∧ J' = J)) := by
  refine pMet_of (by decide) (Nat.le_of_ble_eq_true rfl) ?_
  refine pw_iload_n dX5_trail_0 rfl ?_
  refine pw_iconst (v := (-1)) dX5_trail_1 (by decide) ?_
  refine pw_icmp_ne (tgt := 13) dX5_trail_2 (by decide) (fun h2 => ?_) (fun h2 => ?_)
  · refine pw_iload_n dX5_trail_13 rfl ?_
    refine pw_if_lt (tgt := 28) dX5_trail_14 (by decide) (fun h14 => ?_) (fun h14 => ?_)
    · exact absurd h14 (nI_pos (by omega))
    · refine pw_iload_n dX5_trail_17 rfl ?_
      refine pw_aload_n dX5_trail_18 rfl ?_
      refine pw_getr dX5_trail_19 fl_X5_26 rfl rfl (by decide) (by decide) rfl ?_
      refine pw_geti dX5_trail_22 fl_X5_154 rfl rfl (by decide) (by decide) ?_
      refine pw_icmp_lt (tgt := 38) dX5_trail_25 (by decide) (fun h25 => ?_) (fun h25 => ?_)
      · refine pw_aload_n dX5_trail_38 rfl ?_
        refine pw_getr dX5_trail_39 fl_X5_26 rfl rfl (by decide) (by decide) rfl ?_
        refine pw_getr dX5_trail_42 fl_X5_159 rfl rfl (by decide) (by decide) rfl ?_
        refine pw_iload_n dX5_trail_45 rfl ?_
        refine pw_iald dX5_trail_46 rfl (by decide) (by decide) (vp_in_nI (by omega) (by decide)) ?_
        refine pw_iret dX5_trail_47 rfl rfl (by decide) (by decide) ?_
        exact ⟨_, rfl, rfl, rfl, by rw [nI_clamp (by omega)], rfl, rfl⟩
      · exact absurd (by rw [hI]; exact nI_lt hi (by omega)) h25
  · exact absurd h2 (fun e => absurd (by rw [e]; decide) (nI_pos (n := i) (by omega)))
set_option maxRecDepth 100000 in
set_option maxHeartbeats 4000000 in
theorem c_trail_x {n : Nat} (x : Int32) (I : pI) (J : pJ) (hm : ¬ x = -1) (hx : ¬ (0 ≤ x ∧ x < nI n)) (hI : I 48 1 = nI n) : pMet yX5_trail (pws yX5_trail cX5_trail 2 (some .int)) { frames := 6, cells := 1, slots := 6, locals := 90 } [.ref 0, .int x] 84 I J pRs (pOx eB (fun I' J' => I' = I ∧ J' = J)) := by
  refine pMet_of (by decide) (Nat.le_of_ble_eq_true rfl) ?_
  refine pw_iload_n dX5_trail_0 rfl ?_
  refine pw_iconst (v := (-1)) dX5_trail_1 (by decide) ?_
  refine pw_icmp_ne (tgt := 13) dX5_trail_2 (by decide) (fun h2 => ?_) (fun h2 => ?_)
  · refine pw_iload_n dX5_trail_13 rfl ?_
    refine pw_if_lt (tgt := 28) dX5_trail_14 (by decide) (fun h14 => ?_) (fun h14 => ?_)
    · refine pw_throw (k := 2) (E := "java/lang/IndexOutOfBoundsException") (tx := tx_157) rfl wt_157 rfl rfl dX5_trail_28 dX5_trail_31 dX5_trail_32 dX5_trail_34 dX5_trail_37 (by decide) (by decide) (by decide) (by decide) ?_
      exact ⟨rfl, rfl, rfl, rfl, rfl⟩
    · refine pw_iload_n dX5_trail_17 rfl ?_
      refine pw_aload_n dX5_trail_18 rfl ?_
      refine pw_getr dX5_trail_19 fl_X5_26 rfl rfl (by decide) (by decide) rfl ?_
      refine pw_geti dX5_trail_22 fl_X5_154 rfl rfl (by decide) (by decide) ?_
      refine pw_icmp_lt (tgt := 38) dX5_trail_25 (by decide) (fun h25 => ?_) (fun h25 => ?_)
      · exact absurd ⟨Int32.not_lt.mp h14, by rw [← hI]; exact h25⟩ hx
      · refine pw_throw (k := 2) (E := "java/lang/IndexOutOfBoundsException") (tx := tx_157) rfl wt_157 rfl rfl dX5_trail_28 dX5_trail_31 dX5_trail_32 dX5_trail_34 dX5_trail_37 (by decide) (by decide) (by decide) (by decide) ?_
        exact ⟨rfl, rfl, rfl, rfl, rfl⟩
  · exact absurd h2 hm
def exOK (m n : Int32) : Prop := (1 ≤ m ∧ m ≤ 5) ∧ (1 ≤ n ∧ n ≤ 3) ∧ (m = 3 → n = 2)
set_option maxRecDepth 100000 in
set_option maxHeartbeats 4000000 in
theorem c_exhibit (m n : Int32) (I : pI) (J : pJ) (hx : exOK m n) : pMet yX5_exhibit (pws yX5_exhibit cX5_exhibit 3 none) { frames := 6, cells := 1, slots := 6, locals := 90 } [.ref 0, .int m, .int n] 84 I J pRs (pOv (fun I' J' => I' = shI I m n ∧ J' = J)) := by
  refine pMet_of (by decide) (Nat.le_of_ble_eq_true rfl) ?_
  refine pw_iload_n dX5_exhibit_0 rfl ?_
  refine pw_iconst (v := 1) dX5_exhibit_1 (by decide) ?_
  refine pw_icmp_lt (tgt := 10) dX5_exhibit_2 (by decide) (fun h2 => ?_) (fun h2 => ?_)
  · exact absurd h2 (Int32.not_lt.mpr hx.1.1)
  · refine pw_iload_n dX5_exhibit_5 rfl ?_
    refine pw_iconst (v := 5) dX5_exhibit_6 (by decide) ?_
    refine pw_icmp_le (tgt := 20) dX5_exhibit_7 (by decide) (fun h7 => ?_) (fun h7 => ?_)
    · refine pw_iload_n dX5_exhibit_20 rfl ?_
      refine pw_iconst (v := 1) dX5_exhibit_21 (by decide) ?_
      refine pw_icmp_lt (tgt := 40) dX5_exhibit_22 (by decide) (fun h22 => ?_) (fun h22 => ?_)
      · exact absurd h22 (Int32.not_lt.mpr hx.2.1.1)
      · refine pw_iload_n dX5_exhibit_25 rfl ?_
        refine pw_iconst (v := 3) dX5_exhibit_26 (by decide) ?_
        refine pw_icmp_gt (tgt := 40) dX5_exhibit_27 (by decide) (fun h27 => ?_) (fun h27 => ?_)
        · exact absurd h27 (Int32.not_lt.mpr hx.2.1.2)
        · refine pw_iload_n dX5_exhibit_30 rfl ?_
          refine pw_iconst (v := 3) dX5_exhibit_31 (by decide) ?_
          refine pw_icmp_ne (tgt := 50) dX5_exhibit_32 (by decide) (fun h32 => ?_) (fun h32 => ?_)
          · refine pw_aload_n dX5_exhibit_50 rfl ?_
            refine pw_iload_n dX5_exhibit_51 rfl ?_
            refine pw_iload_n dX5_exhibit_52 rfl ?_
            refine pw_cVv (ci := 5) (y := yX5_show) (cc := cX5_show) (nL := 3) (ret := none) (rm := { frames := 3, cells := 0, slots := 0, locals := 62 }) dX5_exhibit_53 (c_show _ _ _ _) w_X5_30 rfl (by decide) rfl ⟨by decide, by decide⟩ (by decide) (by decide) rfl (Nat.le_of_ble_eq_true rfl) (fun I53 J53 q53 => ?_)
            obtain ⟨rfl, rfl⟩ := rvv q53
            refine pw_vret dX5_exhibit_56 rfl (by decide) (by decide) ?_
            exact ⟨rfl, rfl, rfl, rfl, rfl⟩
          · refine pw_iload_n dX5_exhibit_35 rfl ?_
            refine pw_iconst (v := 2) dX5_exhibit_36 (by decide) ?_
            refine pw_icmp_eq (tgt := 50) dX5_exhibit_37 (by decide) (fun h37 => ?_) (fun h37 => ?_)
            · refine pw_aload_n dX5_exhibit_50 rfl ?_
              refine pw_iload_n dX5_exhibit_51 rfl ?_
              refine pw_iload_n dX5_exhibit_52 rfl ?_
              refine pw_cVv (ci := 5) (y := yX5_show) (cc := cX5_show) (nL := 3) (ret := none) (rm := { frames := 3, cells := 0, slots := 0, locals := 62 }) dX5_exhibit_53 (c_show _ _ _ _) w_X5_30 rfl (by decide) rfl ⟨by decide, by decide⟩ (by decide) (by decide) rfl (Nat.le_of_ble_eq_true rfl) (fun I53_1 J53_1 q53_1 => ?_)
              obtain ⟨rfl, rfl⟩ := rvv q53_1
              refine pw_vret dX5_exhibit_56 rfl (by decide) (by decide) ?_
              exact ⟨rfl, rfl, rfl, rfl, rfl⟩
            · exact absurd (hx.2.2 h32) h37
    · exact absurd hx.1.2 h7
set_option maxRecDepth 100000 in
set_option maxHeartbeats 4000000 in
theorem c_exhibit_x (m n : Int32) (I : pI) (J : pJ) (hx : ¬ exOK m n) : pMet yX5_exhibit (pws yX5_exhibit cX5_exhibit 3 none) { frames := 6, cells := 1, slots := 6, locals := 90 } [.ref 0, .int m, .int n] 84 I J pRs (pOx eA (fun I' J' => I' = I ∧ J' = J)) := by
  refine pMet_of (by decide) (Nat.le_of_ble_eq_true rfl) ?_
  refine pw_iload_n dX5_exhibit_0 rfl ?_
  refine pw_iconst (v := 1) dX5_exhibit_1 (by decide) ?_
  refine pw_icmp_lt (tgt := 10) dX5_exhibit_2 (by decide) (fun h2 => ?_) (fun h2 => ?_)
  · refine pw_throw (k := 0) (E := "java/lang/IllegalArgumentException") (tx := tx_36) rfl wt_36 rfl rfl dX5_exhibit_10 dX5_exhibit_13 dX5_exhibit_14 dX5_exhibit_16 dX5_exhibit_19 (by decide) (by decide) (by decide) (by decide) ?_
    exact ⟨rfl, rfl, rfl, rfl, rfl⟩
  · refine pw_iload_n dX5_exhibit_5 rfl ?_
    refine pw_iconst (v := 5) dX5_exhibit_6 (by decide) ?_
    refine pw_icmp_le (tgt := 20) dX5_exhibit_7 (by decide) (fun h7 => ?_) (fun h7 => ?_)
    · refine pw_iload_n dX5_exhibit_20 rfl ?_
      refine pw_iconst (v := 1) dX5_exhibit_21 (by decide) ?_
      refine pw_icmp_lt (tgt := 40) dX5_exhibit_22 (by decide) (fun h22 => ?_) (fun h22 => ?_)
      · refine pw_throw (k := 0) (E := "java/lang/IllegalArgumentException") (tx := tx_41) rfl wt_41 rfl rfl dX5_exhibit_40 dX5_exhibit_43 dX5_exhibit_44 dX5_exhibit_46 dX5_exhibit_49 (by decide) (by decide) (by decide) (by decide) ?_
        exact ⟨rfl, rfl, rfl, rfl, rfl⟩
      · refine pw_iload_n dX5_exhibit_25 rfl ?_
        refine pw_iconst (v := 3) dX5_exhibit_26 (by decide) ?_
        refine pw_icmp_gt (tgt := 40) dX5_exhibit_27 (by decide) (fun h27 => ?_) (fun h27 => ?_)
        · refine pw_throw (k := 0) (E := "java/lang/IllegalArgumentException") (tx := tx_41) rfl wt_41 rfl rfl dX5_exhibit_40 dX5_exhibit_43 dX5_exhibit_44 dX5_exhibit_46 dX5_exhibit_49 (by decide) (by decide) (by decide) (by decide) ?_
          exact ⟨rfl, rfl, rfl, rfl, rfl⟩
        · refine pw_iload_n dX5_exhibit_30 rfl ?_
          refine pw_iconst (v := 3) dX5_exhibit_31 (by decide) ?_
          refine pw_icmp_ne (tgt := 50) dX5_exhibit_32 (by decide) (fun h32 => ?_) (fun h32 => ?_)
          · exact absurd ⟨⟨Int32.not_lt.mp h2, h7⟩, ⟨Int32.not_lt.mp h22, Int32.not_lt.mp h27⟩, fun z => absurd z h32⟩ hx
          · refine pw_iload_n dX5_exhibit_35 rfl ?_
            refine pw_iconst (v := 2) dX5_exhibit_36 (by decide) ?_
            refine pw_icmp_eq (tgt := 50) dX5_exhibit_37 (by decide) (fun h37 => ?_) (fun h37 => ?_)
            · exact absurd ⟨⟨Int32.not_lt.mp h2, h7⟩, ⟨Int32.not_lt.mp h22, Int32.not_lt.mp h27⟩, fun _ => h37⟩ hx
            · refine pw_throw (k := 0) (E := "java/lang/IllegalArgumentException") (tx := tx_41) rfl wt_41 rfl rfl dX5_exhibit_40 dX5_exhibit_43 dX5_exhibit_44 dX5_exhibit_46 dX5_exhibit_49 (by decide) (by decide) (by decide) (by decide) ?_
              exact ⟨rfl, rfl, rfl, rfl, rfl⟩
    · refine pw_throw (k := 0) (E := "java/lang/IllegalArgumentException") (tx := tx_36) rfl wt_36 rfl rfl dX5_exhibit_10 dX5_exhibit_13 dX5_exhibit_14 dX5_exhibit_16 dX5_exhibit_19 (by decide) (by decide) (by decide) (by decide) ?_
      exact ⟨rfl, rfl, rfl, rfl, rfl⟩
set_option maxRecDepth 100000 in
set_option maxHeartbeats 4000000 in
theorem c_change {i k : Nat} (a b d : Int32) (I : pI) (J : pJ) (hi : i < 40) (hk : k < 14) (h0 : opF k 0 a) (h1' : opF k 1 b) (h2' : opF k 2 d) : pMet yX5_change (pws yX5_change cX5_change 6 none) { frames := 6, cells := 1, slots := 6, locals := 90 } [.ref 0, .int (nI i), .int (nI k), .int a, .int b, .int d] 84 I J pRs (pOv (fun I' J' => I' = bcI I (3 + i) (nI k) a b d ∧ J' = J)) := by
  refine pMet_of (by decide) (Nat.le_of_ble_eq_true rfl) ?_
  refine pw_iload_n dX5_change_0 rfl ?_
  refine pw_if_lt (tgt := 10) dX5_change_1 (by decide) (fun h1 => ?_) (fun h1 => ?_)
  · exact absurd h1 (nI_pos (by omega))
  · refine pw_iload_n dX5_change_4 rfl ?_
    refine pw_bipush (v := 40) dX5_change_5 (by decide) ?_
    refine pw_icmp_lt (tgt := 20) dX5_change_7 (by decide) (fun h7 => ?_) (fun h7 => ?_)
    · refine pw_iload_n dX5_change_20 rfl ?_
      refine pw_if_lt (tgt := 30) dX5_change_21 (by decide) (fun h21 => ?_) (fun h21 => ?_)
      · exact absurd h21 (nI_pos (by omega))
      · refine pw_iload_n dX5_change_24 rfl ?_
        refine pw_bipush (v := 14) dX5_change_25 (by decide) ?_
        refine pw_icmp_lt (tgt := 40) dX5_change_27 (by decide) (fun h27 => ?_) (fun h27 => ?_)
        · refine pw_iload_n dX5_change_40 rfl ?_
          refine pw_iconst (v := 0) dX5_change_41 (by decide) ?_
          refine pw_iload_n dX5_change_42 rfl ?_
          refine pw_cSi (y := yX5_operandFits) (cc := cX5_operandFits) (nL := 4) (ret := (some .boolean)) (rm := { frames := 0, cells := 0, slots := 0, locals := 0 }) dX5_change_43 (c_operandFits (j := 0) _ _ _ hk (by decide)) w_X5_47 rfl ⟨by decide, by decide⟩ (by decide) (by decide) rfl (Nat.le_of_ble_eq_true rfl) (fun x43 I43 J43 q43 => ?_)
          obtain ⟨rfl, rfl, rfl⟩ := rvq q43
          refine pw_if_eq (tgt := 69) dX5_change_46 (by decide) (fun h46 => ?_) (fun h46 => ?_)
          · exact absurd h46 (by rw [if_pos h0]; decide)
          · refine pw_iload_n dX5_change_49 rfl ?_
            refine pw_iconst (v := 1) dX5_change_50 (by decide) ?_
            refine pw_iload dX5_change_51 rfl ?_
            refine pw_cSi (y := yX5_operandFits) (cc := cX5_operandFits) (nL := 4) (ret := (some .boolean)) (rm := { frames := 0, cells := 0, slots := 0, locals := 0 }) dX5_change_53 (c_operandFits (j := 1) _ _ _ hk (by decide)) w_X5_47 rfl ⟨by decide, by decide⟩ (by decide) (by decide) rfl (Nat.le_of_ble_eq_true rfl) (fun x53 I53 J53 q53 => ?_)
            obtain ⟨rfl, rfl, rfl⟩ := rvq q53
            refine pw_if_eq (tgt := 69) dX5_change_56 (by decide) (fun h56 => ?_) (fun h56 => ?_)
            · exact absurd h56 (by rw [if_pos h1']; decide)
            · refine pw_iload_n dX5_change_59 rfl ?_
              refine pw_iconst (v := 2) dX5_change_60 (by decide) ?_
              refine pw_iload dX5_change_61 rfl ?_
              refine pw_cSi (y := yX5_operandFits) (cc := cX5_operandFits) (nL := 4) (ret := (some .boolean)) (rm := { frames := 0, cells := 0, slots := 0, locals := 0 }) dX5_change_63 (c_operandFits (j := 2) _ _ _ hk (by decide)) w_X5_47 rfl ⟨by decide, by decide⟩ (by decide) (by decide) rfl (Nat.le_of_ble_eq_true rfl) (fun x63 I63 J63 q63 => ?_)
              obtain ⟨rfl, rfl, rfl⟩ := rvq q63
              refine pw_if_ne (tgt := 79) dX5_change_66 (by decide) (fun h66 => ?_) (fun h66 => ?_)
              · refine pw_aload_n dX5_change_79 rfl ?_
                refine pw_getr dX5_change_80 fl_X5_10 rfl rfl (by decide) (by decide) rfl ?_
                refine pw_getr dX5_change_83 fl_X5_53 rfl rfl (by decide) (by decide) rfl ?_
                refine pw_iload_n dX5_change_86 rfl ?_
                refine pw_aaldI (x := 3 + i) dX5_change_87 rfl (by decide) (by decide) (vp_in_nI hi (by decide)) (by rw [nI_clamp (by omega)]; rfl) ?_
                refine pw_iload_n dX5_change_88 rfl ?_
                refine pw_iload_n dX5_change_89 rfl ?_
                refine pw_iload dX5_change_90 rfl ?_
                refine pw_iload dX5_change_92 rfl ?_
                refine pw_cVv (ci := 2) (y := yX2_become) (cc := cX2_become) (nL := 5) (ret := none) (rm := { frames := 0, cells := 0, slots := 0, locals := 0 }) dX5_change_94 (c_become _ _ _ _ _ _ (pS_ins hi) (by omega)) w_X5_57 (pS_ins hi) (by omega) rfl ⟨by decide, by decide⟩ (by decide) (by decide) rfl (Nat.le_of_ble_eq_true rfl) (fun I94 J94 q94 => ?_)
                obtain ⟨rfl, rfl⟩ := rvv q94
                refine pw_vret dX5_change_97 rfl (by decide) (by decide) ?_
                exact ⟨rfl, rfl, rfl, rfl, rfl⟩
              · exact absurd h66 (by rw [if_pos h2']; decide)
        · exact absurd (nI_lt (b := 14) hk (by decide)) h27
    · exact absurd (nI_lt (b := 40) hi (by decide)) h7
set_option maxRecDepth 100000 in
set_option maxHeartbeats 4000000 in
theorem c_change_1 (x y a b d : Int32) (I : pI) (J : pJ) (hx : ¬ (0 ≤ x ∧ x < 40)) : pMet yX5_change (pws yX5_change cX5_change 6 none) { frames := 6, cells := 1, slots := 6, locals := 90 } [.ref 0, .int x, .int y, .int a, .int b, .int d] 84 I J pRs (pOx eA (fun I' J' => I' = I ∧ J' = J)) := by
  refine pMet_of (by decide) (Nat.le_of_ble_eq_true rfl) ?_
  refine pw_iload_n dX5_change_0 rfl ?_
  refine pw_if_lt (tgt := 10) dX5_change_1 (by decide) (fun h1 => ?_) (fun h1 => ?_)
  · refine pw_throw (k := 0) (E := "java/lang/IllegalArgumentException") (tx := tx_43) rfl wt_43 rfl rfl dX5_change_10 dX5_change_13 dX5_change_14 dX5_change_16 dX5_change_19 (by decide) (by decide) (by decide) (by decide) ?_
    exact ⟨rfl, rfl, rfl, rfl, rfl⟩
  · refine pw_iload_n dX5_change_4 rfl ?_
    refine pw_bipush (v := 40) dX5_change_5 (by decide) ?_
    refine pw_icmp_lt (tgt := 20) dX5_change_7 (by decide) (fun h7 => ?_) (fun h7 => ?_)
    · exact absurd ⟨Int32.not_lt.mp h1, h7⟩ hx
    · refine pw_throw (k := 0) (E := "java/lang/IllegalArgumentException") (tx := tx_43) rfl wt_43 rfl rfl dX5_change_10 dX5_change_13 dX5_change_14 dX5_change_16 dX5_change_19 (by decide) (by decide) (by decide) (by decide) ?_
      exact ⟨rfl, rfl, rfl, rfl, rfl⟩
set_option maxRecDepth 100000 in
set_option maxHeartbeats 4000000 in
theorem c_change_2 {i : Nat} (y a b d : Int32) (I : pI) (J : pJ) (hi : i < 40) (hx : ¬ (0 ≤ y ∧ y < 14)) : pMet yX5_change (pws yX5_change cX5_change 6 none) { frames := 6, cells := 1, slots := 6, locals := 90 } [.ref 0, .int (nI i), .int y, .int a, .int b, .int d] 84 I J pRs (pOx eA (fun I' J' => I' = I ∧ J' = J)) := by
  refine pMet_of (by decide) (Nat.le_of_ble_eq_true rfl) ?_
  refine pw_iload_n dX5_change_0 rfl ?_
  refine pw_if_lt (tgt := 10) dX5_change_1 (by decide) (fun h1 => ?_) (fun h1 => ?_)
  · exact absurd h1 (nI_pos (by omega))
  · refine pw_iload_n dX5_change_4 rfl ?_
    refine pw_bipush (v := 40) dX5_change_5 (by decide) ?_
    refine pw_icmp_lt (tgt := 20) dX5_change_7 (by decide) (fun h7 => ?_) (fun h7 => ?_)
    · refine pw_iload_n dX5_change_20 rfl ?_
      refine pw_if_lt (tgt := 30) dX5_change_21 (by decide) (fun h21 => ?_) (fun h21 => ?_)
      · refine pw_throw (k := 0) (E := "java/lang/IllegalArgumentException") (tx := tx_45) rfl wt_45 rfl rfl dX5_change_30 dX5_change_33 dX5_change_34 dX5_change_36 dX5_change_39 (by decide) (by decide) (by decide) (by decide) ?_
        exact ⟨rfl, rfl, rfl, rfl, rfl⟩
      · refine pw_iload_n dX5_change_24 rfl ?_
        refine pw_bipush (v := 14) dX5_change_25 (by decide) ?_
        refine pw_icmp_lt (tgt := 40) dX5_change_27 (by decide) (fun h27 => ?_) (fun h27 => ?_)
        · exact absurd ⟨Int32.not_lt.mp h21, h27⟩ hx
        · refine pw_throw (k := 0) (E := "java/lang/IllegalArgumentException") (tx := tx_45) rfl wt_45 rfl rfl dX5_change_30 dX5_change_33 dX5_change_34 dX5_change_36 dX5_change_39 (by decide) (by decide) (by decide) (by decide) ?_
          exact ⟨rfl, rfl, rfl, rfl, rfl⟩
    · exact absurd (nI_lt (b := 40) hi (by decide)) h7
theorem of_if1 {p : Prop} [Decidable p] (h : ¬ (if p then (1 : Int32) else 0) = 0) : p := by
  by_cases hp : p
  · exact hp
  · rw [if_neg hp] at h; exact absurd rfl h
set_option maxRecDepth 100000 in
set_option maxHeartbeats 4000000 in
theorem c_change_3 {i k : Nat} (a b d : Int32) (I : pI) (J : pJ) (hi : i < 40) (hk : k < 14) (hx : ¬ (opF k 0 a ∧ opF k 1 b ∧ opF k 2 d)) : pMet yX5_change (pws yX5_change cX5_change 6 none) { frames := 6, cells := 1, slots := 6, locals := 90 } [.ref 0, .int (nI i), .int (nI k), .int a, .int b, .int d] 84 I J pRs (pOx eA (fun I' J' => I' = I ∧ J' = J)) := by
  refine pMet_of (by decide) (Nat.le_of_ble_eq_true rfl) ?_
  refine pw_iload_n dX5_change_0 rfl ?_
  refine pw_if_lt (tgt := 10) dX5_change_1 (by decide) (fun h1 => ?_) (fun h1 => ?_)
  · exact absurd h1 (nI_pos (by omega))
  · refine pw_iload_n dX5_change_4 rfl ?_
    refine pw_bipush (v := 40) dX5_change_5 (by decide) ?_
    refine pw_icmp_lt (tgt := 20) dX5_change_7 (by decide) (fun h7 => ?_) (fun h7 => ?_)
    · refine pw_iload_n dX5_change_20 rfl ?_
      refine pw_if_lt (tgt := 30) dX5_change_21 (by decide) (fun h21 => ?_) (fun h21 => ?_)
      · exact absurd h21 (nI_pos (by omega))
      · refine pw_iload_n dX5_change_24 rfl ?_
        refine pw_bipush (v := 14) dX5_change_25 (by decide) ?_
        refine pw_icmp_lt (tgt := 40) dX5_change_27 (by decide) (fun h27 => ?_) (fun h27 => ?_)
        · refine pw_iload_n dX5_change_40 rfl ?_
          refine pw_iconst (v := 0) dX5_change_41 (by decide) ?_
          refine pw_iload_n dX5_change_42 rfl ?_
          refine pw_cSi (y := yX5_operandFits) (cc := cX5_operandFits) (nL := 4) (ret := (some .boolean)) (rm := { frames := 0, cells := 0, slots := 0, locals := 0 }) dX5_change_43 (c_operandFits (j := 0) _ _ _ hk (by decide)) w_X5_47 rfl ⟨by decide, by decide⟩ (by decide) (by decide) rfl (Nat.le_of_ble_eq_true rfl) (fun x43 I43 J43 q43 => ?_)
          obtain ⟨rfl, rfl, rfl⟩ := rvq q43
          refine pw_if_eq (tgt := 69) dX5_change_46 (by decide) (fun h46 => ?_) (fun h46 => ?_)
          · refine pw_throw (k := 0) (E := "java/lang/IllegalArgumentException") (tx := tx_51) rfl wt_51 rfl rfl dX5_change_69 dX5_change_72 dX5_change_73 dX5_change_75 dX5_change_78 (by decide) (by decide) (by decide) (by decide) ?_
            exact ⟨rfl, rfl, rfl, rfl, rfl⟩
          · refine pw_iload_n dX5_change_49 rfl ?_
            refine pw_iconst (v := 1) dX5_change_50 (by decide) ?_
            refine pw_iload dX5_change_51 rfl ?_
            refine pw_cSi (y := yX5_operandFits) (cc := cX5_operandFits) (nL := 4) (ret := (some .boolean)) (rm := { frames := 0, cells := 0, slots := 0, locals := 0 }) dX5_change_53 (c_operandFits (j := 1) _ _ _ hk (by decide)) w_X5_47 rfl ⟨by decide, by decide⟩ (by decide) (by decide) rfl (Nat.le_of_ble_eq_true rfl) (fun x53 I53 J53 q53 => ?_)
            obtain ⟨rfl, rfl, rfl⟩ := rvq q53
            refine pw_if_eq (tgt := 69) dX5_change_56 (by decide) (fun h56 => ?_) (fun h56 => ?_)
            · refine pw_throw (k := 0) (E := "java/lang/IllegalArgumentException") (tx := tx_51) rfl wt_51 rfl rfl dX5_change_69 dX5_change_72 dX5_change_73 dX5_change_75 dX5_change_78 (by decide) (by decide) (by decide) (by decide) ?_
              exact ⟨rfl, rfl, rfl, rfl, rfl⟩
            · refine pw_iload_n dX5_change_59 rfl ?_
              refine pw_iconst (v := 2) dX5_change_60 (by decide) ?_
              refine pw_iload dX5_change_61 rfl ?_
              refine pw_cSi (y := yX5_operandFits) (cc := cX5_operandFits) (nL := 4) (ret := (some .boolean)) (rm := { frames := 0, cells := 0, slots := 0, locals := 0 }) dX5_change_63 (c_operandFits (j := 2) _ _ _ hk (by decide)) w_X5_47 rfl ⟨by decide, by decide⟩ (by decide) (by decide) rfl (Nat.le_of_ble_eq_true rfl) (fun x63 I63 J63 q63 => ?_)
              obtain ⟨rfl, rfl, rfl⟩ := rvq q63
              refine pw_if_ne (tgt := 79) dX5_change_66 (by decide) (fun h66 => ?_) (fun h66 => ?_)
              · exact absurd ⟨of_if1 h46, of_if1 h56, of_if1 h66⟩ hx
              · refine pw_throw (k := 0) (E := "java/lang/IllegalArgumentException") (tx := tx_51) rfl wt_51 rfl rfl dX5_change_69 dX5_change_72 dX5_change_73 dX5_change_75 dX5_change_78 (by decide) (by decide) (by decide) (by decide) ?_
                exact ⟨rfl, rfl, rfl, rfl, rfl⟩
        · exact absurd (nI_lt (b := 14) hk (by decide)) h27
    · exact absurd (nI_lt (b := 40) hi (by decide)) h7
