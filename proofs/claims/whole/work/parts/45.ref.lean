/-! THE REFERENCE's FACE: thrown is at 64, 0; a call that is refused changes nothing else -/
theorem in_t {x lo hi : Int32} (h : lo ≤ x ∧ x ≤ hi) : isIn x lo hi = 1 := if_pos h
theorem in_f {x lo hi : Int32} (h : ¬ (lo ≤ x ∧ x ≤ hi)) : isIn x lo hi = 0 := if_neg h
theorem in_p {p c : Nat} {I : pI} (hp : p < c) (hc : c ≤ 3) (hI : I 64 2 = nI c) : isIn (nI p) 0 (I 64 2 - 1) = 1 := by
  refine in_t ⟨nI_le (a := 0) (by omega) (by omega), ?_⟩
  rw [hI, show nI c - (1 : Int32) = nI (c - 1) from pk_sub (b := 1) (by omega)]
  exact nI_le (by omega) (by omega)
theorem t10 : rfT 1 0 = 1 := by decide
theorem t01 : rfT 0 1 = 2 := by decide
theorem t00 : rfT 0 0 = 0 := by decide
set_option maxRecDepth 100000 in
set_option maxHeartbeats 4000000 in
theorem r_want_x (x : Int32) (I : pI) (J : pJ) (hx : ¬ (0 ≤ x ∧ x ≤ I 64 2 - 1)) : pMet yX6_want (pws yX6_want cX6_want 3 none) { frames := 2, cells := 0, slots := 0, locals := 44 } [.ref 64, .int x] 84 I J pRs (pOv (fun I' J' => I' = upI I 64 0 1 ∧ J' = J)) := by
  refine pMet_of (by decide) (Nat.le_of_ble_eq_true rfl) ?_
  refine pw_aload_n dX6_want_0 rfl ?_
  refine pw_iload_n dX6_want_1 rfl ?_
  refine pw_cVi (ci := 6) (y := yX6_isProcess) (cc := cX6_isProcess) (nL := 2) (ret := (some .boolean)) (rm := { frames := 1, cells := 0, slots := 0, locals := 22 }) dX6_want_2 (r_isProcess _ _ _) w_X6_137 rfl (by decide) rfl ⟨by decide, by decide⟩ (by decide) (by decide) rfl (Nat.le_of_ble_eq_true rfl) (fun x2 I2 J2 q2 => ?_)
  obtain ⟨rfl, rfl, rfl⟩ := rvq q2
  rw [in_f hx]
  refine pw_istore_n dX6_want_5 (by decide) ?_
  refine pw_aload_n dX6_want_6 rfl ?_
  refine pw_iload_n dX6_want_7 rfl ?_
  refine pw_if_ne (tgt := 15) dX6_want_8 (by decide) (fun z => absurd z (by decide)) (fun _ => ?_)
  refine pw_iconst (v := 1) dX6_want_11 (by decide) ?_
  refine pw_goto (tgt := 16) dX6_want_12 (by decide) ?_
  refine pw_iload_n dX6_want_16 rfl ?_
  refine pw_if_eq (tgt := 33) dX6_want_17 (by decide) (fun _ => ?_) (fun z => absurd z (by decide))
  refine pw_iconst (v := 0) dX6_want_33 (by decide) ?_
  refine pw_cVi (ci := 6) (y := yX6_refuse) (cc := cX6_refuse) (nL := 3) (ret := (some .boolean)) (rm := { frames := 0, cells := 0, slots := 0, locals := 0 }) dX6_want_34 (r_refuse 1 0 _ _) w_X6_106 rfl (by decide) rfl ⟨by decide, by decide⟩ (by decide) (by decide) rfl (Nat.le_of_ble_eq_true rfl) (fun x34 I34 J34 q34 => ?_)
  obtain ⟨rfl, rfl, rfl⟩ := rvq q34
  refine pw_if_ne (tgt := 46) dX6_want_37 (by decide) (fun _ => ?_) (fun z => absurd z (by decide))
  refine pw_vret dX6_want_46 rfl (by decide) (by decide) ?_
  exact ⟨rfl, rfl, rfl, by rw [t10], rfl⟩
set_option maxRecDepth 100000 in
set_option maxHeartbeats 4000000 in
theorem r_leave_x (x : Int32) (I : pI) (J : pJ) (hx : ¬ (0 ≤ x ∧ x ≤ I 64 2 - 1)) : pMet yX6_leave (pws yX6_leave cX6_leave 3 none) { frames := 2, cells := 0, slots := 0, locals := 43 } [.ref 64, .int x] 84 I J pRs (pOv (fun I' J' => I' = upI I 64 0 1 ∧ J' = J)) := by
  refine pMet_of (by decide) (Nat.le_of_ble_eq_true rfl) ?_
  refine pw_aload_n dX6_leave_0 rfl ?_
  refine pw_iload_n dX6_leave_1 rfl ?_
  refine pw_cVi (ci := 6) (y := yX6_isProcess) (cc := cX6_isProcess) (nL := 2) (ret := (some .boolean)) (rm := { frames := 1, cells := 0, slots := 0, locals := 22 }) dX6_leave_2 (r_isProcess _ _ _) w_X6_137 rfl (by decide) rfl ⟨by decide, by decide⟩ (by decide) (by decide) rfl (Nat.le_of_ble_eq_true rfl) (fun x2 I2 J2 q2 => ?_)
  obtain ⟨rfl, rfl, rfl⟩ := rvq q2
  rw [in_f hx]
  refine pw_istore_n dX6_leave_5 (by decide) ?_
  refine pw_aload_n dX6_leave_6 rfl ?_
  refine pw_iload_n dX6_leave_7 rfl ?_
  refine pw_if_ne (tgt := 15) dX6_leave_8 (by decide) (fun z => absurd z (by decide)) (fun _ => ?_)
  refine pw_iconst (v := 1) dX6_leave_11 (by decide) ?_
  refine pw_goto (tgt := 16) dX6_leave_12 (by decide) ?_
  refine pw_iload_n dX6_leave_16 rfl ?_
  refine pw_if_eq (tgt := 34) dX6_leave_17 (by decide) (fun _ => ?_) (fun z => absurd z (by decide))
  refine pw_iconst (v := 0) dX6_leave_34 (by decide) ?_
  refine pw_cVi (ci := 6) (y := yX6_refuse) (cc := cX6_refuse) (nL := 3) (ret := (some .boolean)) (rm := { frames := 0, cells := 0, slots := 0, locals := 0 }) dX6_leave_35 (r_refuse 1 0 _ _) w_X6_106 rfl (by decide) rfl ⟨by decide, by decide⟩ (by decide) (by decide) rfl (Nat.le_of_ble_eq_true rfl) (fun x35 I35 J35 q35 => ?_)
  obtain ⟨rfl, rfl, rfl⟩ := rvq q35
  refine pw_if_ne (tgt := 48) dX6_leave_38 (by decide) (fun _ => ?_) (fun z => absurd z (by decide))
  refine pw_vret dX6_leave_48 rfl (by decide) (by decide) ?_
  exact ⟨rfl, rfl, rfl, by rw [t10], rfl⟩
set_option maxRecDepth 100000 in
set_option maxHeartbeats 4000000 in
theorem r_want_s {p c : Nat} (I : pI) (J : pJ) (hp : p < c) (hc : c ≤ 3) (hI : I 64 2 = nI c) (hs : ¬ I 68 p = 0) : pMet yX6_want (pws yX6_want cX6_want 3 none) { frames := 2, cells := 0, slots := 0, locals := 44 } [.ref 64, .int (nI p)] 84 I J pRs (pOv (fun I' J' => I' = upI I 64 0 2 ∧ J' = J)) := by
  refine pMet_of (by decide) (Nat.le_of_ble_eq_true rfl) ?_
  refine pw_aload_n dX6_want_0 rfl ?_
  refine pw_iload_n dX6_want_1 rfl ?_
  refine pw_cVi (ci := 6) (y := yX6_isProcess) (cc := cX6_isProcess) (nL := 2) (ret := (some .boolean)) (rm := { frames := 1, cells := 0, slots := 0, locals := 22 }) dX6_want_2 (r_isProcess _ _ _) w_X6_137 rfl (by decide) rfl ⟨by decide, by decide⟩ (by decide) (by decide) rfl (Nat.le_of_ble_eq_true rfl) (fun x2 I2 J2 q2 => ?_)
  obtain ⟨rfl, rfl, rfl⟩ := rvq q2
  rw [in_p hp hc hI]
  refine pw_istore_n dX6_want_5 (by decide) ?_
  refine pw_aload_n dX6_want_6 rfl ?_
  refine pw_iload_n dX6_want_7 rfl ?_
  refine pw_if_ne (tgt := 15) dX6_want_8 (by decide) (fun _ => ?_) (fun z => absurd z (by decide))
  refine pw_iconst (v := 0) dX6_want_15 (by decide) ?_
  refine pw_iload_n dX6_want_16 rfl ?_
  refine pw_if_eq (tgt := 33) dX6_want_17 (by decide) (fun z => absurd z (by decide)) (fun _ => ?_)
  refine pw_aload_n dX6_want_20 rfl ?_
  refine pw_getr dX6_want_21 fl_X6_26 rfl rfl (by decide) (by decide) rfl ?_
  refine pw_iload_n dX6_want_24 rfl ?_
  refine pw_iald dX6_want_25 rfl (by decide) (by decide) (vp_in_nI (by omega) (by decide)) ?_
  rw [nI_clamp (show p < 2 ^ 31 by omega)]
  refine pw_if_eq (tgt := 33) dX6_want_26 (by decide) (fun z => absurd z hs) (fun _ => ?_)
  refine pw_iconst (v := 1) dX6_want_29 (by decide) ?_
  refine pw_goto (tgt := 34) dX6_want_30 (by decide) ?_
  refine pw_cVi (ci := 6) (y := yX6_refuse) (cc := cX6_refuse) (nL := 3) (ret := (some .boolean)) (rm := { frames := 0, cells := 0, slots := 0, locals := 0 }) dX6_want_34 (r_refuse 0 1 _ _) w_X6_106 rfl (by decide) rfl ⟨by decide, by decide⟩ (by decide) (by decide) rfl (Nat.le_of_ble_eq_true rfl) (fun x34 I34 J34 q34 => ?_)
  obtain ⟨rfl, rfl, rfl⟩ := rvq q34
  refine pw_if_ne (tgt := 46) dX6_want_37 (by decide) (fun _ => ?_) (fun z => absurd z (by decide))
  refine pw_vret dX6_want_46 rfl (by decide) (by decide) ?_
  exact ⟨rfl, rfl, rfl, by rw [t01], rfl⟩
set_option maxRecDepth 100000 in
set_option maxHeartbeats 4000000 in
theorem r_want {p c : Nat} (I : pI) (J : pJ) (hp : p < c) (hc : c ≤ 3) (hI : I 64 2 = nI c) (hs : I 68 p = 0) : pMet yX6_want (pws yX6_want cX6_want 3 none) { frames := 2, cells := 0, slots := 0, locals := 44 } [.ref 64, .int (nI p)] 84 I J pRs (pOv (fun I' J' => I' = atI (upI I 64 0 0) p (nI p) ∧ J' = J)) := by
  refine pMet_of (by decide) (Nat.le_of_ble_eq_true rfl) ?_
  refine pw_aload_n dX6_want_0 rfl ?_
  refine pw_iload_n dX6_want_1 rfl ?_
  refine pw_cVi (ci := 6) (y := yX6_isProcess) (cc := cX6_isProcess) (nL := 2) (ret := (some .boolean)) (rm := { frames := 1, cells := 0, slots := 0, locals := 22 }) dX6_want_2 (r_isProcess _ _ _) w_X6_137 rfl (by decide) rfl ⟨by decide, by decide⟩ (by decide) (by decide) rfl (Nat.le_of_ble_eq_true rfl) (fun x2 I2 J2 q2 => ?_)
  obtain ⟨rfl, rfl, rfl⟩ := rvq q2
  rw [in_p hp hc hI]
  refine pw_istore_n dX6_want_5 (by decide) ?_
  refine pw_aload_n dX6_want_6 rfl ?_
  refine pw_iload_n dX6_want_7 rfl ?_
  refine pw_if_ne (tgt := 15) dX6_want_8 (by decide) (fun _ => ?_) (fun z => absurd z (by decide))
  refine pw_iconst (v := 0) dX6_want_15 (by decide) ?_
  refine pw_iload_n dX6_want_16 rfl ?_
  refine pw_if_eq (tgt := 33) dX6_want_17 (by decide) (fun z => absurd z (by decide)) (fun _ => ?_)
  refine pw_aload_n dX6_want_20 rfl ?_
  refine pw_getr dX6_want_21 fl_X6_26 rfl rfl (by decide) (by decide) rfl ?_
  refine pw_iload_n dX6_want_24 rfl ?_
  refine pw_iald dX6_want_25 rfl (by decide) (by decide) (vp_in_nI (by omega) (by decide)) ?_
  rw [nI_clamp (show p < 2 ^ 31 by omega)]
  refine pw_if_eq (tgt := 33) dX6_want_26 (by decide) (fun _ => ?_) (fun z => absurd hs z)
  refine pw_iconst (v := 0) dX6_want_33 (by decide) ?_
  refine pw_cVi (ci := 6) (y := yX6_refuse) (cc := cX6_refuse) (nL := 3) (ret := (some .boolean)) (rm := { frames := 0, cells := 0, slots := 0, locals := 0 }) dX6_want_34 (r_refuse 0 0 _ _) w_X6_106 rfl (by decide) rfl ⟨by decide, by decide⟩ (by decide) (by decide) rfl (Nat.le_of_ble_eq_true rfl) (fun x34 I34 J34 q34 => ?_)
  obtain ⟨rfl, rfl, rfl⟩ := rvq q34
  refine pw_if_ne (tgt := 46) dX6_want_37 (by decide) (fun z => absurd z (by decide)) (fun _ => ?_)
  refine pw_aload_n dX6_want_40 rfl ?_
  refine pw_iload_n dX6_want_41 rfl ?_
  refine pw_iload_n dX6_want_42 rfl ?_
  refine pw_cVv (ci := 6) (y := yX6_attempt) (cc := cX6_attempt) (nL := 3) (ret := none) (rm := { frames := 1, cells := 0, slots := 0, locals := 22 }) dX6_want_43 (r_attempt _ _ _ (by omega)) w_X6_140 rfl (by decide) rfl ⟨by decide, by decide⟩ (by decide) (by decide) rfl (Nat.le_of_ble_eq_true rfl) (fun I43 J43 q43 => ?_)
  obtain ⟨rfl, rfl⟩ := rvv q43
  refine pw_vret dX6_want_46 rfl (by decide) (by decide) ?_
  exact ⟨rfl, rfl, rfl, by rw [t00], rfl⟩
set_option maxRecDepth 100000 in
set_option maxHeartbeats 4000000 in
theorem r_leave_s {p c : Nat} (I : pI) (J : pJ) (hp : p < c) (hc : c ≤ 3) (hI : I 64 2 = nI c) (hs : ¬ I 68 p = 2) : pMet yX6_leave (pws yX6_leave cX6_leave 3 none) { frames := 2, cells := 0, slots := 0, locals := 43 } [.ref 64, .int (nI p)] 84 I J pRs (pOv (fun I' J' => I' = upI I 64 0 2 ∧ J' = J)) := by
  refine pMet_of (by decide) (Nat.le_of_ble_eq_true rfl) ?_
  refine pw_aload_n dX6_leave_0 rfl ?_
  refine pw_iload_n dX6_leave_1 rfl ?_
  refine pw_cVi (ci := 6) (y := yX6_isProcess) (cc := cX6_isProcess) (nL := 2) (ret := (some .boolean)) (rm := { frames := 1, cells := 0, slots := 0, locals := 22 }) dX6_leave_2 (r_isProcess _ _ _) w_X6_137 rfl (by decide) rfl ⟨by decide, by decide⟩ (by decide) (by decide) rfl (Nat.le_of_ble_eq_true rfl) (fun x2 I2 J2 q2 => ?_)
  obtain ⟨rfl, rfl, rfl⟩ := rvq q2
  rw [in_p hp hc hI]
  refine pw_istore_n dX6_leave_5 (by decide) ?_
  refine pw_aload_n dX6_leave_6 rfl ?_
  refine pw_iload_n dX6_leave_7 rfl ?_
  refine pw_if_ne (tgt := 15) dX6_leave_8 (by decide) (fun _ => ?_) (fun z => absurd z (by decide))
  refine pw_iconst (v := 0) dX6_leave_15 (by decide) ?_
  refine pw_iload_n dX6_leave_16 rfl ?_
  refine pw_if_eq (tgt := 34) dX6_leave_17 (by decide) (fun z => absurd z (by decide)) (fun _ => ?_)
  refine pw_aload_n dX6_leave_20 rfl ?_
  refine pw_getr dX6_leave_21 fl_X6_26 rfl rfl (by decide) (by decide) rfl ?_
  refine pw_iload_n dX6_leave_24 rfl ?_
  refine pw_iald dX6_leave_25 rfl (by decide) (by decide) (vp_in_nI (by omega) (by decide)) ?_
  rw [nI_clamp (show p < 2 ^ 31 by omega)]
  refine pw_iconst (v := 2) dX6_leave_26 (by decide) ?_
  refine pw_icmp_eq (tgt := 34) dX6_leave_27 (by decide) (fun z => absurd z hs) (fun _ => ?_)
  refine pw_iconst (v := 1) dX6_leave_30 (by decide) ?_
  refine pw_goto (tgt := 35) dX6_leave_31 (by decide) ?_
  refine pw_cVi (ci := 6) (y := yX6_refuse) (cc := cX6_refuse) (nL := 3) (ret := (some .boolean)) (rm := { frames := 0, cells := 0, slots := 0, locals := 0 }) dX6_leave_35 (r_refuse 0 1 _ _) w_X6_106 rfl (by decide) rfl ⟨by decide, by decide⟩ (by decide) (by decide) rfl (Nat.le_of_ble_eq_true rfl) (fun x35 I35 J35 q35 => ?_)
  obtain ⟨rfl, rfl, rfl⟩ := rvq q35
  refine pw_if_ne (tgt := 48) dX6_leave_38 (by decide) (fun _ => ?_) (fun z => absurd z (by decide))
  refine pw_vret dX6_leave_48 rfl (by decide) (by decide) ?_
  exact ⟨rfl, rfl, rfl, by rw [t01], rfl⟩
set_option maxRecDepth 100000 in
set_option maxHeartbeats 4000000 in
theorem r_leave {p c : Nat} (I : pI) (J : pJ) (hp : p < c) (hc : c ≤ 3) (hI : I 64 2 = nI c) (hs : I 68 p = 2) : pMet yX6_leave (pws yX6_leave cX6_leave 3 none) { frames := 2, cells := 0, slots := 0, locals := 43 } [.ref 64, .int (nI p)] 84 I J pRs (pOv (fun I' J' => I' = upI (upI I 64 0 0) 68 p 3 ∧ J' = J)) := by
  refine pMet_of (by decide) (Nat.le_of_ble_eq_true rfl) ?_
  refine pw_aload_n dX6_leave_0 rfl ?_
  refine pw_iload_n dX6_leave_1 rfl ?_
  refine pw_cVi (ci := 6) (y := yX6_isProcess) (cc := cX6_isProcess) (nL := 2) (ret := (some .boolean)) (rm := { frames := 1, cells := 0, slots := 0, locals := 22 }) dX6_leave_2 (r_isProcess _ _ _) w_X6_137 rfl (by decide) rfl ⟨by decide, by decide⟩ (by decide) (by decide) rfl (Nat.le_of_ble_eq_true rfl) (fun x2 I2 J2 q2 => ?_)
  obtain ⟨rfl, rfl, rfl⟩ := rvq q2
  rw [in_p hp hc hI]
  refine pw_istore_n dX6_leave_5 (by decide) ?_
  refine pw_aload_n dX6_leave_6 rfl ?_
  refine pw_iload_n dX6_leave_7 rfl ?_
  refine pw_if_ne (tgt := 15) dX6_leave_8 (by decide) (fun _ => ?_) (fun z => absurd z (by decide))
  refine pw_iconst (v := 0) dX6_leave_15 (by decide) ?_
  refine pw_iload_n dX6_leave_16 rfl ?_
  refine pw_if_eq (tgt := 34) dX6_leave_17 (by decide) (fun z => absurd z (by decide)) (fun _ => ?_)
  refine pw_aload_n dX6_leave_20 rfl ?_
  refine pw_getr dX6_leave_21 fl_X6_26 rfl rfl (by decide) (by decide) rfl ?_
  refine pw_iload_n dX6_leave_24 rfl ?_
  refine pw_iald dX6_leave_25 rfl (by decide) (by decide) (vp_in_nI (by omega) (by decide)) ?_
  rw [nI_clamp (show p < 2 ^ 31 by omega)]
  refine pw_iconst (v := 2) dX6_leave_26 (by decide) ?_
  refine pw_icmp_eq (tgt := 34) dX6_leave_27 (by decide) (fun _ => ?_) (fun z => absurd hs z)
  refine pw_iconst (v := 0) dX6_leave_34 (by decide) ?_
  refine pw_cVi (ci := 6) (y := yX6_refuse) (cc := cX6_refuse) (nL := 3) (ret := (some .boolean)) (rm := { frames := 0, cells := 0, slots := 0, locals := 0 }) dX6_leave_35 (r_refuse 0 0 _ _) w_X6_106 rfl (by decide) rfl ⟨by decide, by decide⟩ (by decide) (by decide) rfl (Nat.le_of_ble_eq_true rfl) (fun x35 I35 J35 q35 => ?_)
  obtain ⟨rfl, rfl, rfl⟩ := rvq q35
  refine pw_if_ne (tgt := 48) dX6_leave_38 (by decide) (fun z => absurd z (by decide)) (fun _ => ?_)
  refine pw_aload_n dX6_leave_41 rfl ?_
  refine pw_getr dX6_leave_42 fl_X6_26 rfl rfl (by decide) (by decide) rfl ?_
  refine pw_iload_n dX6_leave_45 rfl ?_
  refine pw_iconst (v := 3) dX6_leave_46 (by decide) ?_
  refine pw_iast dX6_leave_47 rfl (by decide) (by decide) (vp_in_nI (by omega) (by decide)) ?_
  rw [nI_clamp (show p < 2 ^ 31 by omega)]
  refine pw_vret dX6_leave_48 rfl (by decide) (by decide) ?_
  exact ⟨rfl, rfl, rfl, by rw [t00], rfl⟩
set_option maxRecDepth 100000 in
set_option maxHeartbeats 4000000 in
theorem r_step_x (x : Int32) (I : pI) (J : pJ) (hx : ¬ (0 ≤ x ∧ x ≤ I 64 2 - 1)) : pMet yX6_step (pws yX6_step cX6_step 3 (some .int)) { frames := 2, cells := 0, slots := 0, locals := 54 } [.ref 64, .int x] 84 I J pRs (pOi (fun r I' J' => r = 0 ∧ I' = upI I 64 0 1 ∧ J' = J)) := by
  refine pMet_of (by decide) (Nat.le_of_ble_eq_true rfl) ?_
  refine pw_aload_n dX6_step_0 rfl ?_
  refine pw_iload_n dX6_step_1 rfl ?_
  refine pw_cVi (ci := 6) (y := yX6_isProcess) (cc := cX6_isProcess) (nL := 2) (ret := (some .boolean)) (rm := { frames := 1, cells := 0, slots := 0, locals := 22 }) dX6_step_2 (r_isProcess _ _ _) w_X6_137 rfl (by decide) rfl ⟨by decide, by decide⟩ (by decide) (by decide) rfl (Nat.le_of_ble_eq_true rfl) (fun x2 I2 J2 q2 => ?_)
  obtain ⟨rfl, rfl, rfl⟩ := rvq q2
  rw [in_f hx]
  refine pw_istore_n dX6_step_5 (by decide) ?_
  refine pw_aload_n dX6_step_6 rfl ?_
  refine pw_iload_n dX6_step_7 rfl ?_
  refine pw_if_ne (tgt := 15) dX6_step_8 (by decide) (fun z => absurd z (by decide)) (fun _ => ?_)
  refine pw_iconst (v := 1) dX6_step_11 (by decide) ?_
  refine pw_goto (tgt := 16) dX6_step_12 (by decide) ?_
  refine pw_iload_n dX6_step_16 rfl ?_
  refine pw_if_eq (tgt := 44) dX6_step_17 (by decide) (fun _ => ?_) (fun z => absurd z (by decide))
  refine pw_iconst (v := 0) dX6_step_44 (by decide) ?_
  refine pw_cVi (ci := 6) (y := yX6_refuse) (cc := cX6_refuse) (nL := 3) (ret := (some .boolean)) (rm := { frames := 0, cells := 0, slots := 0, locals := 0 }) dX6_step_45 (r_refuse 1 0 _ _) w_X6_106 rfl (by decide) rfl ⟨by decide, by decide⟩ (by decide) (by decide) rfl (Nat.le_of_ble_eq_true rfl) (fun x45 I45 J45 q45 => ?_)
  obtain ⟨rfl, rfl, rfl⟩ := rvq q45
  refine pw_if_eq (tgt := 53) dX6_step_48 (by decide) (fun z => absurd z (by decide)) (fun _ => ?_)
  refine pw_iconst (v := 0) dX6_step_51 (by decide) ?_
  refine pw_iret dX6_step_52 rfl rfl (by decide) (by decide) ?_
  exact ⟨_, rfl, rfl, rfl, rfl, by rw [t10], rfl⟩
set_option maxRecDepth 100000 in
set_option maxHeartbeats 4000000 in
theorem r_step_s {p c : Nat} (I : pI) (J : pJ) (hp : p < c) (hc : c ≤ 3) (hI : I 64 2 = nI c) (hs : ¬ (I 68 p = 1 ∨ I 68 p = 3)) : pMet yX6_step (pws yX6_step cX6_step 3 (some .int)) { frames := 2, cells := 0, slots := 0, locals := 54 } [.ref 64, .int (nI p)] 84 I J pRs (pOi (fun r I' J' => r = 0 ∧ I' = upI I 64 0 2 ∧ J' = J)) := by
  refine pMet_of (by decide) (Nat.le_of_ble_eq_true rfl) ?_
  refine pw_aload_n dX6_step_0 rfl ?_
  refine pw_iload_n dX6_step_1 rfl ?_
  refine pw_cVi (ci := 6) (y := yX6_isProcess) (cc := cX6_isProcess) (nL := 2) (ret := (some .boolean)) (rm := { frames := 1, cells := 0, slots := 0, locals := 22 }) dX6_step_2 (r_isProcess _ _ _) w_X6_137 rfl (by decide) rfl ⟨by decide, by decide⟩ (by decide) (by decide) rfl (Nat.le_of_ble_eq_true rfl) (fun x2 I2 J2 q2 => ?_)
  obtain ⟨rfl, rfl, rfl⟩ := rvq q2
  rw [in_p hp hc hI]
  refine pw_istore_n dX6_step_5 (by decide) ?_
  refine pw_aload_n dX6_step_6 rfl ?_
  refine pw_iload_n dX6_step_7 rfl ?_
  refine pw_if_ne (tgt := 15) dX6_step_8 (by decide) (fun _ => ?_) (fun z => absurd z (by decide))
  refine pw_iconst (v := 0) dX6_step_15 (by decide) ?_
  refine pw_iload_n dX6_step_16 rfl ?_
  refine pw_if_eq (tgt := 44) dX6_step_17 (by decide) (fun z => absurd z (by decide)) (fun _ => ?_)
  refine pw_aload_n dX6_step_20 rfl ?_
  refine pw_getr dX6_step_21 fl_X6_26 rfl rfl (by decide) (by decide) rfl ?_
  refine pw_iload_n dX6_step_24 rfl ?_
  refine pw_iald dX6_step_25 rfl (by decide) (by decide) (vp_in_nI (by omega) (by decide)) ?_
  rw [nI_clamp (show p < 2 ^ 31 by omega)]
  refine pw_iconst (v := 1) dX6_step_26 (by decide) ?_
  refine pw_icmp_eq (tgt := 44) dX6_step_27 (by decide) (fun z => absurd (Or.inl z) hs) (fun _ => ?_)
  refine pw_aload_n dX6_step_30 rfl ?_
  refine pw_getr dX6_step_31 fl_X6_26 rfl rfl (by decide) (by decide) rfl ?_
  refine pw_iload_n dX6_step_34 rfl ?_
  refine pw_iald dX6_step_35 rfl (by decide) (by decide) (vp_in_nI (by omega) (by decide)) ?_
  rw [nI_clamp (show p < 2 ^ 31 by omega)]
  refine pw_iconst (v := 3) dX6_step_36 (by decide) ?_
  refine pw_icmp_eq (tgt := 44) dX6_step_37 (by decide) (fun z => absurd (Or.inr z) hs) (fun _ => ?_)
  refine pw_iconst (v := 1) dX6_step_40 (by decide) ?_
  refine pw_goto (tgt := 45) dX6_step_41 (by decide) ?_
  refine pw_cVi (ci := 6) (y := yX6_refuse) (cc := cX6_refuse) (nL := 3) (ret := (some .boolean)) (rm := { frames := 0, cells := 0, slots := 0, locals := 0 }) dX6_step_45 (r_refuse 0 1 _ _) w_X6_106 rfl (by decide) rfl ⟨by decide, by decide⟩ (by decide) (by decide) rfl (Nat.le_of_ble_eq_true rfl) (fun x45 I45 J45 q45 => ?_)
  obtain ⟨rfl, rfl, rfl⟩ := rvq q45
  refine pw_if_eq (tgt := 53) dX6_step_48 (by decide) (fun z => absurd z (by decide)) (fun _ => ?_)
  refine pw_iconst (v := 0) dX6_step_51 (by decide) ?_
  refine pw_iret dX6_step_52 rfl rfl (by decide) (by decide) ?_
  exact ⟨_, rfl, rfl, rfl, rfl, by rw [t01], rfl⟩
set_option maxRecDepth 100000 in
set_option maxHeartbeats 4000000 in
theorem r_step {p c : Nat} (I : pI) (J : pJ) (hp : p < c) (hc : c ≤ 3) (hI : I 64 2 = nI c) (hPR : PR I) (hpl : ∃ q, q ≤ 40 ∧ I 69 p = nI q) (hR : RG I p) (hs : I 68 p = 1 ∨ I 68 p = 3) : pMet yX6_step (pws yX6_step cX6_step 3 (some .int)) { frames := 2, cells := 0, slots := 0, locals := 54 } [.ref 64, .int (nI p)] 84 I J pRs (pOi (fun r I' J' => r = wkI (upI I 64 0 0) p 0 c 68 p ∧ I' = wkI (upI I 64 0 0) p 0 c ∧ J' = J)) := by
  refine pMet_of (by decide) (Nat.le_of_ble_eq_true rfl) ?_
  refine pw_aload_n dX6_step_0 rfl ?_
  refine pw_iload_n dX6_step_1 rfl ?_
  refine pw_cVi (ci := 6) (y := yX6_isProcess) (cc := cX6_isProcess) (nL := 2) (ret := (some .boolean)) (rm := { frames := 1, cells := 0, slots := 0, locals := 22 }) dX6_step_2 (r_isProcess _ _ _) w_X6_137 rfl (by decide) rfl ⟨by decide, by decide⟩ (by decide) (by decide) rfl (Nat.le_of_ble_eq_true rfl) (fun x2 I2 J2 q2 => ?_)
  obtain ⟨rfl, rfl, rfl⟩ := rvq q2
  rw [in_p hp hc hI]
  refine pw_istore_n dX6_step_5 (by decide) ?_
  refine pw_aload_n dX6_step_6 rfl ?_
  refine pw_iload_n dX6_step_7 rfl ?_
  refine pw_if_ne (tgt := 15) dX6_step_8 (by decide) (fun _ => ?_) (fun z => absurd z (by decide))
  refine pw_iconst (v := 0) dX6_step_15 (by decide) ?_
  refine pw_iload_n dX6_step_16 rfl ?_
  refine pw_if_eq (tgt := 44) dX6_step_17 (by decide) (fun z => absurd z (by decide)) (fun _ => ?_)
  refine pw_aload_n dX6_step_20 rfl ?_
  refine pw_getr dX6_step_21 fl_X6_26 rfl rfl (by decide) (by decide) rfl ?_
  refine pw_iload_n dX6_step_24 rfl ?_
  refine pw_iald dX6_step_25 rfl (by decide) (by decide) (vp_in_nI (by omega) (by decide)) ?_
  rw [nI_clamp (show p < 2 ^ 31 by omega)]
  refine pw_iconst (v := 1) dX6_step_26 (by decide) ?_
  refine pw_icmp_eq (tgt := 44) dX6_step_27 (by decide) (fun h27 => ?_) (fun h27 => ?_)
  · refine pw_iconst (v := 0) dX6_step_44 (by decide) ?_
    refine pw_cVi (ci := 6) (y := yX6_refuse) (cc := cX6_refuse) (nL := 3) (ret := (some .boolean)) (rm := { frames := 0, cells := 0, slots := 0, locals := 0 }) dX6_step_45 (r_refuse 0 0 _ _) w_X6_106 rfl (by decide) rfl ⟨by decide, by decide⟩ (by decide) (by decide) rfl (Nat.le_of_ble_eq_true rfl) (fun x45 I45 J45 q45 => ?_)
    obtain ⟨rfl, rfl, rfl⟩ := rvq q45
    refine pw_if_eq (tgt := 53) dX6_step_48 (by decide) (fun _ => ?_) (fun z => absurd z (by decide))
    refine pw_aload_n dX6_step_53 rfl ?_
    refine pw_iload_n dX6_step_54 rfl ?_
    refine pw_iconst (v := 0) dX6_step_55 (by decide) ?_
    refine pw_cVv (ci := 6) (y := yX6_walk) (cc := cX6_walk) (nL := 5) (ret := none) (rm := { frames := 1, cells := 0, slots := 0, locals := 30 }) dX6_step_56 (r_walk (b := 0) (p := p) (c := c) (upI I 64 0 (rfT 0 0)) J (Or.inl rfl) (by omega) hc (fun i hi => by rw [upI_a (by decide), upI_a (by decide), upI_a (by decide), upI_a (by decide)]; exact hPR i hi) (by rw [upI_a (by decide)]; exact hpl) (RG_o (by decide) hR) (by rw [upI_k (by decide)]; exact hI)) w_X6_143 rfl (by decide) rfl ⟨by decide, by decide⟩ (by decide) (by decide) rfl (Nat.le_of_ble_eq_true rfl) (fun I56 J56 q56 => ?_)
    obtain ⟨rfl, rfl⟩ := rvv q56
    refine pw_aload_n dX6_step_59 rfl ?_
    refine pw_getr dX6_step_60 fl_X6_26 rfl rfl (by decide) (by decide) rfl ?_
    refine pw_iload_n dX6_step_63 rfl ?_
    refine pw_iald dX6_step_64 rfl (by decide) (by decide) (vp_in_nI (by omega) (by decide)) ?_
    rw [nI_clamp (show p < 2 ^ 31 by omega)]
    refine pw_iret dX6_step_65 rfl rfl (by decide) (by decide) ?_
    exact ⟨_, rfl, rfl, rfl, by rw [t00], by rw [t00], rfl⟩
  · refine pw_aload_n dX6_step_30 rfl ?_
    refine pw_getr dX6_step_31 fl_X6_26 rfl rfl (by decide) (by decide) rfl ?_
    refine pw_iload_n dX6_step_34 rfl ?_
    refine pw_iald dX6_step_35 rfl (by decide) (by decide) (vp_in_nI (by omega) (by decide)) ?_
    rw [nI_clamp (show p < 2 ^ 31 by omega)]
    refine pw_iconst (v := 3) dX6_step_36 (by decide) ?_
    refine pw_icmp_eq (tgt := 44) dX6_step_37 (by decide) (fun _ => ?_) (fun z => absurd (hs.resolve_left h27) z)
    refine pw_iconst (v := 0) dX6_step_44 (by decide) ?_
    refine pw_cVi (ci := 6) (y := yX6_refuse) (cc := cX6_refuse) (nL := 3) (ret := (some .boolean)) (rm := { frames := 0, cells := 0, slots := 0, locals := 0 }) dX6_step_45 (r_refuse 0 0 _ _) w_X6_106 rfl (by decide) rfl ⟨by decide, by decide⟩ (by decide) (by decide) rfl (Nat.le_of_ble_eq_true rfl) (fun x45_1 I45_1 J45_1 q45_1 => ?_)
    obtain ⟨rfl, rfl, rfl⟩ := rvq q45_1
    refine pw_if_eq (tgt := 53) dX6_step_48 (by decide) (fun _ => ?_) (fun z => absurd z (by decide))
    refine pw_aload_n dX6_step_53 rfl ?_
    refine pw_iload_n dX6_step_54 rfl ?_
    refine pw_iconst (v := 0) dX6_step_55 (by decide) ?_
    refine pw_cVv (ci := 6) (y := yX6_walk) (cc := cX6_walk) (nL := 5) (ret := none) (rm := { frames := 1, cells := 0, slots := 0, locals := 30 }) dX6_step_56 (r_walk (b := 0) (p := p) (c := c) (upI I 64 0 (rfT 0 0)) J (Or.inl rfl) (by omega) hc (fun i hi => by rw [upI_a (by decide), upI_a (by decide), upI_a (by decide), upI_a (by decide)]; exact hPR i hi) (by rw [upI_a (by decide)]; exact hpl) (RG_o (by decide) hR) (by rw [upI_k (by decide)]; exact hI)) w_X6_143 rfl (by decide) rfl ⟨by decide, by decide⟩ (by decide) (by decide) rfl (Nat.le_of_ble_eq_true rfl) (fun I56_1 J56_1 q56_1 => ?_)
    obtain ⟨rfl, rfl⟩ := rvv q56_1
    refine pw_aload_n dX6_step_59 rfl ?_
    refine pw_getr dX6_step_60 fl_X6_26 rfl rfl (by decide) (by decide) rfl ?_
    refine pw_iload_n dX6_step_63 rfl ?_
    refine pw_iald dX6_step_64 rfl (by decide) (by decide) (vp_in_nI (by omega) (by decide)) ?_
    rw [nI_clamp (show p < 2 ^ 31 by omega)]
    refine pw_iret dX6_step_65 rfl rfl (by decide) (by decide) ?_
    exact ⟨_, rfl, rfl, rfl, by rw [t00], by rw [t00], rfl⟩
set_option maxRecDepth 100000 in
set_option maxHeartbeats 4000000 in
theorem r_word_x (x : Int32) (I : pI) (J : pJ) (hx : ¬ (0 ≤ x ∧ x ≤ 7)) : pMet yX6_word (pws yX6_word cX6_word 2 (some .int)) { frames := 1, cells := 0, slots := 0, locals := 22 } [.ref 64, .int x] 84 I J pRs (pOi (fun r I' J' => r = 0 ∧ I' = upI I 64 0 1 ∧ J' = J)) := by
  refine pMet_of (by decide) (Nat.le_of_ble_eq_true rfl) ?_
  refine pw_aload_n dX6_word_0 rfl ?_
  refine pw_iload_n dX6_word_1 rfl ?_
  refine pw_iconst (v := 0) dX6_word_2 (by decide) ?_
  refine pw_bipush (v := 7) dX6_word_3 (by decide) ?_
  refine pw_cSi (y := yX6_in) (cc := cX6_in) (nL := 3) (ret := (some .boolean)) (rm := { frames := 0, cells := 0, slots := 0, locals := 0 }) dX6_word_5 (r_in _ _ _ _ _) w_X6_102 rfl ⟨by decide, by decide⟩ (by decide) (by decide) rfl (Nat.le_of_ble_eq_true rfl) (fun x5 I5 J5 q5 => ?_)
  obtain ⟨rfl, rfl, rfl⟩ := rvq q5
  rw [in_f hx]
  refine pw_if_ne (tgt := 15) dX6_word_8 (by decide) (fun z => absurd z (by decide)) (fun _ => ?_)
  refine pw_iconst (v := 1) dX6_word_11 (by decide) ?_
  refine pw_goto (tgt := 16) dX6_word_12 (by decide) ?_
  refine pw_iconst (v := 0) dX6_word_16 (by decide) ?_
  refine pw_cVi (ci := 6) (y := yX6_refuse) (cc := cX6_refuse) (nL := 3) (ret := (some .boolean)) (rm := { frames := 0, cells := 0, slots := 0, locals := 0 }) dX6_word_17 (r_refuse 1 0 _ _) w_X6_106 rfl (by decide) rfl ⟨by decide, by decide⟩ (by decide) (by decide) rfl (Nat.le_of_ble_eq_true rfl) (fun x17 I17 J17 q17 => ?_)
  obtain ⟨rfl, rfl, rfl⟩ := rvq q17
  refine pw_if_eq (tgt := 27) dX6_word_20 (by decide) (fun z => absurd z (by decide)) (fun _ => ?_)
  refine pw_iconst (v := 0) dX6_word_23 (by decide) ?_
  refine pw_goto (tgt := 33) dX6_word_24 (by decide) ?_
  refine pw_iret dX6_word_33 rfl rfl (by decide) (by decide) ?_
  exact ⟨_, rfl, rfl, rfl, rfl, by rw [t10], rfl⟩
set_option maxRecDepth 100000 in
set_option maxHeartbeats 4000000 in
theorem r_word {i : Nat} (I : pI) (J : pJ) (hi : i < 8) : pMet yX6_word (pws yX6_word cX6_word 2 (some .int)) { frames := 1, cells := 0, slots := 0, locals := 22 } [.ref 64, .int (nI i)] 84 I J pRs (pOi (fun r I' J' => r = I 67 i ∧ I' = upI I 64 0 0 ∧ J' = J)) := by
  have hx : (0 : Int32) ≤ nI i ∧ nI i ≤ 7 := ⟨nI_le (a := 0) (by omega) (by omega), nI_le (b := 7) (by omega) (by decide)⟩
  refine pMet_of (by decide) (Nat.le_of_ble_eq_true rfl) ?_
  refine pw_aload_n dX6_word_0 rfl ?_
  refine pw_iload_n dX6_word_1 rfl ?_
  refine pw_iconst (v := 0) dX6_word_2 (by decide) ?_
  refine pw_bipush (v := 7) dX6_word_3 (by decide) ?_
  refine pw_cSi (y := yX6_in) (cc := cX6_in) (nL := 3) (ret := (some .boolean)) (rm := { frames := 0, cells := 0, slots := 0, locals := 0 }) dX6_word_5 (r_in _ _ _ _ _) w_X6_102 rfl ⟨by decide, by decide⟩ (by decide) (by decide) rfl (Nat.le_of_ble_eq_true rfl) (fun x5 I5 J5 q5 => ?_)
  obtain ⟨rfl, rfl, rfl⟩ := rvq q5
  rw [in_t hx]
  refine pw_if_ne (tgt := 15) dX6_word_8 (by decide) (fun _ => ?_) (fun z => absurd z (by decide))
  refine pw_iconst (v := 0) dX6_word_15 (by decide) ?_
  refine pw_iconst (v := 0) dX6_word_16 (by decide) ?_
  refine pw_cVi (ci := 6) (y := yX6_refuse) (cc := cX6_refuse) (nL := 3) (ret := (some .boolean)) (rm := { frames := 0, cells := 0, slots := 0, locals := 0 }) dX6_word_17 (r_refuse 0 0 _ _) w_X6_106 rfl (by decide) rfl ⟨by decide, by decide⟩ (by decide) (by decide) rfl (Nat.le_of_ble_eq_true rfl) (fun x17 I17 J17 q17 => ?_)
  obtain ⟨rfl, rfl, rfl⟩ := rvq q17
  refine pw_if_eq (tgt := 27) dX6_word_20 (by decide) (fun _ => ?_) (fun z => absurd z (by decide))
  refine pw_aload_n dX6_word_27 rfl ?_
  refine pw_getr dX6_word_28 fl_X6_23 rfl rfl (by decide) (by decide) rfl ?_
  refine pw_iload_n dX6_word_31 rfl ?_
  refine pw_iald dX6_word_32 rfl (by decide) (by decide) (vp_in_nI (by omega) (by decide)) ?_
  rw [nI_clamp (show i < 2 ^ 31 by omega), upI_a (by decide)]
  refine pw_iret dX6_word_33 rfl rfl (by decide) (by decide) ?_
  exact ⟨_, rfl, rfl, rfl, rfl, by rw [t00], rfl⟩
set_option maxRecDepth 100000 in
set_option maxHeartbeats 4000000 in
theorem r_register_x (x r : Int32) (I : pI) (J : pJ) (hx : ¬ (0 ≤ x ∧ x ≤ I 64 2 - 1)) : pMet yX6_register (pws yX6_register cX6_register 4 (some .int)) { frames := 2, cells := 0, slots := 0, locals := 43 } [.ref 64, .int x, .int r] 84 I J pRs (pOi (fun r I' J' => r = 0 ∧ I' = upI I 64 0 1 ∧ J' = J)) := by
  refine pMet_of (by decide) (Nat.le_of_ble_eq_true rfl) ?_
  refine pw_aload_n dX6_register_0 rfl ?_
  refine pw_iload_n dX6_register_1 rfl ?_
  refine pw_cVi (ci := 6) (y := yX6_isProcess) (cc := cX6_isProcess) (nL := 2) (ret := (some .boolean)) (rm := { frames := 1, cells := 0, slots := 0, locals := 22 }) dX6_register_2 (r_isProcess _ _ _) w_X6_137 rfl (by decide) rfl ⟨by decide, by decide⟩ (by decide) (by decide) rfl (Nat.le_of_ble_eq_true rfl) (fun x2 I2 J2 q2 => ?_)
  obtain ⟨rfl, rfl, rfl⟩ := rvq q2
  rw [in_f hx]
  refine pw_istore_n dX6_register_5 (by decide) ?_
  refine pw_aload_n dX6_register_6 rfl ?_
  refine pw_iload_n dX6_register_7 rfl ?_
  refine pw_if_ne (tgt := 15) dX6_register_8 (by decide) (fun z => absurd z (by decide)) (fun _ => ?_)
  refine pw_iconst (v := 1) dX6_register_11 (by decide) ?_
  refine pw_goto (tgt := 16) dX6_register_12 (by decide) ?_
  refine pw_iload_n dX6_register_16 rfl ?_
  refine pw_if_eq (tgt := 31) dX6_register_17 (by decide) (fun _ => ?_) (fun z => absurd z (by decide))
  refine pw_iconst (v := 0) dX6_register_31 (by decide) ?_
  refine pw_cVi (ci := 6) (y := yX6_refuse) (cc := cX6_refuse) (nL := 3) (ret := (some .boolean)) (rm := { frames := 0, cells := 0, slots := 0, locals := 0 }) dX6_register_32 (r_refuse 1 0 _ _) w_X6_106 rfl (by decide) rfl ⟨by decide, by decide⟩ (by decide) (by decide) rfl (Nat.le_of_ble_eq_true rfl) (fun x32 I32 J32 q32 => ?_)
  obtain ⟨rfl, rfl, rfl⟩ := rvq q32
  refine pw_if_eq (tgt := 42) dX6_register_35 (by decide) (fun z => absurd z (by decide)) (fun _ => ?_)
  refine pw_iconst (v := 0) dX6_register_38 (by decide) ?_
  refine pw_goto (tgt := 53) dX6_register_39 (by decide) ?_
  refine pw_iret dX6_register_53 rfl rfl (by decide) (by decide) ?_
  exact ⟨_, rfl, rfl, rfl, rfl, by rw [t10], rfl⟩
set_option maxRecDepth 100000 in
set_option maxHeartbeats 4000000 in
theorem r_register_b {p c : Nat} (r : Int32) (I : pI) (J : pJ) (hp : p < c) (hc : c ≤ 3) (hI : I 64 2 = nI c) (hr : ¬ (0 ≤ r ∧ r ≤ 5)) : pMet yX6_register (pws yX6_register cX6_register 4 (some .int)) { frames := 2, cells := 0, slots := 0, locals := 43 } [.ref 64, .int (nI p), .int r] 84 I J pRs (pOi (fun r I' J' => r = 0 ∧ I' = upI I 64 0 2 ∧ J' = J)) := by
  refine pMet_of (by decide) (Nat.le_of_ble_eq_true rfl) ?_
  refine pw_aload_n dX6_register_0 rfl ?_
  refine pw_iload_n dX6_register_1 rfl ?_
  refine pw_cVi (ci := 6) (y := yX6_isProcess) (cc := cX6_isProcess) (nL := 2) (ret := (some .boolean)) (rm := { frames := 1, cells := 0, slots := 0, locals := 22 }) dX6_register_2 (r_isProcess _ _ _) w_X6_137 rfl (by decide) rfl ⟨by decide, by decide⟩ (by decide) (by decide) rfl (Nat.le_of_ble_eq_true rfl) (fun x2 I2 J2 q2 => ?_)
  obtain ⟨rfl, rfl, rfl⟩ := rvq q2
  rw [in_p hp hc hI]
  refine pw_istore_n dX6_register_5 (by decide) ?_
  refine pw_aload_n dX6_register_6 rfl ?_
  refine pw_iload_n dX6_register_7 rfl ?_
  refine pw_if_ne (tgt := 15) dX6_register_8 (by decide) (fun _ => ?_) (fun z => absurd z (by decide))
  refine pw_iconst (v := 0) dX6_register_15 (by decide) ?_
  refine pw_iload_n dX6_register_16 rfl ?_
  refine pw_if_eq (tgt := 31) dX6_register_17 (by decide) (fun z => absurd z (by decide)) (fun _ => ?_)
  refine pw_iload_n dX6_register_20 rfl ?_
  refine pw_cSi (y := yX6_isRegister) (cc := cX6_isRegister) (nL := 1) (ret := (some .boolean)) (rm := { frames := 1, cells := 0, slots := 0, locals := 22 }) dX6_register_21 (r_isRegister _ _ _) w_X6_116 rfl ⟨by decide, by decide⟩ (by decide) (by decide) rfl (Nat.le_of_ble_eq_true rfl) (fun x21 I21 J21 q21 => ?_)
  obtain ⟨rfl, rfl, rfl⟩ := rvq q21
  rw [in_f hr]
  refine pw_if_ne (tgt := 31) dX6_register_24 (by decide) (fun z => absurd z (by decide)) (fun _ => ?_)
  refine pw_iconst (v := 1) dX6_register_27 (by decide) ?_
  refine pw_goto (tgt := 32) dX6_register_28 (by decide) ?_
  refine pw_cVi (ci := 6) (y := yX6_refuse) (cc := cX6_refuse) (nL := 3) (ret := (some .boolean)) (rm := { frames := 0, cells := 0, slots := 0, locals := 0 }) dX6_register_32 (r_refuse 0 1 _ _) w_X6_106 rfl (by decide) rfl ⟨by decide, by decide⟩ (by decide) (by decide) rfl (Nat.le_of_ble_eq_true rfl) (fun x32 I32 J32 q32 => ?_)
  obtain ⟨rfl, rfl, rfl⟩ := rvq q32
  refine pw_if_eq (tgt := 42) dX6_register_35 (by decide) (fun z => absurd z (by decide)) (fun _ => ?_)
  refine pw_iconst (v := 0) dX6_register_38 (by decide) ?_
  refine pw_goto (tgt := 53) dX6_register_39 (by decide) ?_
  refine pw_iret dX6_register_53 rfl rfl (by decide) (by decide) ?_
  exact ⟨_, rfl, rfl, rfl, rfl, by rw [t01], rfl⟩
set_option maxRecDepth 100000 in
set_option maxHeartbeats 4000000 in
theorem r_register {p c i : Nat} (I : pI) (J : pJ) (hp : p < c) (hc : c ≤ 3) (hI : I 64 2 = nI c) (hi : i < 6) : pMet yX6_register (pws yX6_register cX6_register 4 (some .int)) { frames := 2, cells := 0, slots := 0, locals := 43 } [.ref 64, .int (nI p), .int (nI i)] 84 I J pRs (pOi (fun r I' J' => r = I 70 (6 * p + i) ∧ I' = upI I 64 0 0 ∧ J' = J)) := by
  have hr : (0 : Int32) ≤ nI i ∧ nI i ≤ 5 := ⟨nI_le (a := 0) (by omega) (by omega), nI_le (b := 5) (by omega) (by decide)⟩
  refine pMet_of (by decide) (Nat.le_of_ble_eq_true rfl) ?_
  refine pw_aload_n dX6_register_0 rfl ?_
  refine pw_iload_n dX6_register_1 rfl ?_
  refine pw_cVi (ci := 6) (y := yX6_isProcess) (cc := cX6_isProcess) (nL := 2) (ret := (some .boolean)) (rm := { frames := 1, cells := 0, slots := 0, locals := 22 }) dX6_register_2 (r_isProcess _ _ _) w_X6_137 rfl (by decide) rfl ⟨by decide, by decide⟩ (by decide) (by decide) rfl (Nat.le_of_ble_eq_true rfl) (fun x2 I2 J2 q2 => ?_)
  obtain ⟨rfl, rfl, rfl⟩ := rvq q2
  rw [in_p hp hc hI]
  refine pw_istore_n dX6_register_5 (by decide) ?_
  refine pw_aload_n dX6_register_6 rfl ?_
  refine pw_iload_n dX6_register_7 rfl ?_
  refine pw_if_ne (tgt := 15) dX6_register_8 (by decide) (fun _ => ?_) (fun z => absurd z (by decide))
  refine pw_iconst (v := 0) dX6_register_15 (by decide) ?_
  refine pw_iload_n dX6_register_16 rfl ?_
  refine pw_if_eq (tgt := 31) dX6_register_17 (by decide) (fun z => absurd z (by decide)) (fun _ => ?_)
  refine pw_iload_n dX6_register_20 rfl ?_
  refine pw_cSi (y := yX6_isRegister) (cc := cX6_isRegister) (nL := 1) (ret := (some .boolean)) (rm := { frames := 1, cells := 0, slots := 0, locals := 22 }) dX6_register_21 (r_isRegister _ _ _) w_X6_116 rfl ⟨by decide, by decide⟩ (by decide) (by decide) rfl (Nat.le_of_ble_eq_true rfl) (fun x21 I21 J21 q21 => ?_)
  obtain ⟨rfl, rfl, rfl⟩ := rvq q21
  rw [in_t hr]
  refine pw_if_ne (tgt := 31) dX6_register_24 (by decide) (fun _ => ?_) (fun z => absurd z (by decide))
  refine pw_iconst (v := 0) dX6_register_31 (by decide) ?_
  refine pw_cVi (ci := 6) (y := yX6_refuse) (cc := cX6_refuse) (nL := 3) (ret := (some .boolean)) (rm := { frames := 0, cells := 0, slots := 0, locals := 0 }) dX6_register_32 (r_refuse 0 0 _ _) w_X6_106 rfl (by decide) rfl ⟨by decide, by decide⟩ (by decide) (by decide) rfl (Nat.le_of_ble_eq_true rfl) (fun x32 I32 J32 q32 => ?_)
  obtain ⟨rfl, rfl, rfl⟩ := rvq q32
  refine pw_if_eq (tgt := 42) dX6_register_35 (by decide) (fun _ => ?_) (fun z => absurd z (by decide))
  refine pw_aload_n dX6_register_42 rfl ?_
  refine pw_getr dX6_register_43 fl_X6_32 rfl rfl (by decide) (by decide) rfl ?_
  refine pw_bipush (v := 6) dX6_register_46 (by decide) ?_
  refine pw_iload_n dX6_register_48 rfl ?_
  refine pw_imul dX6_register_49 ?_
  refine pw_iload_n dX6_register_50 rfl ?_
  refine pw_iadd dX6_register_51 ?_
  rw [show (6 : Int32) * nI p + nI i = nI (6 * p + i) by rw [show (6 : Int32) = nI 6 by decide, pk_mul, nI_add]]
  refine pw_iald dX6_register_52 rfl (by decide) (by decide) (vp_in_nI (by omega) (by decide)) ?_
  rw [nI_clamp (show 6 * p + i < 2 ^ 31 by omega), upI_a (by decide)]
  refine pw_iret dX6_register_53 rfl rfl (by decide) (by decide) ?_
  exact ⟨_, rfl, rfl, rfl, rfl, by rw [t00], rfl⟩
set_option maxRecDepth 100000 in
set_option maxHeartbeats 4000000 in
theorem r_about_x (x r : Int32) (I : pI) (J : pJ) (hx : ¬ (0 ≤ x ∧ x ≤ I 64 2 - 1)) : pMet yX6_about (pws yX6_about cX6_about 3 (some .int)) { frames := 2, cells := 0, slots := 0, locals := 43 } [.ref 64, .int x, .int r] 84 I J pRs (pOi (fun r I' J' => r = 0 ∧ I' = upI I 64 0 1 ∧ J' = J)) := by
  refine pMet_of (by decide) (Nat.le_of_ble_eq_true rfl) ?_
  refine pw_aload_n dX6_about_0 rfl ?_
  refine pw_aload_n dX6_about_1 rfl ?_
  refine pw_iload_n dX6_about_2 rfl ?_
  refine pw_cVi (ci := 6) (y := yX6_isProcess) (cc := cX6_isProcess) (nL := 2) (ret := (some .boolean)) (rm := { frames := 1, cells := 0, slots := 0, locals := 22 }) dX6_about_3 (r_isProcess _ _ _) w_X6_137 rfl (by decide) rfl ⟨by decide, by decide⟩ (by decide) (by decide) rfl (Nat.le_of_ble_eq_true rfl) (fun x3 I3 J3 q3 => ?_)
  obtain ⟨rfl, rfl, rfl⟩ := rvq q3
  rw [in_f hx]
  refine pw_if_eq (tgt := 18) dX6_about_6 (by decide) (fun _ => ?_) (fun z => absurd z (by decide))
  refine pw_iconst (v := 1) dX6_about_18 (by decide) ?_
  refine pw_goto (tgt := 23) dX6_about_19 (by decide) ?_
  refine pw_iconst (v := 0) dX6_about_23 (by decide) ?_
  refine pw_cVi (ci := 6) (y := yX6_refuse) (cc := cX6_refuse) (nL := 3) (ret := (some .boolean)) (rm := { frames := 0, cells := 0, slots := 0, locals := 0 }) dX6_about_24 (r_refuse 1 0 _ _) w_X6_106 rfl (by decide) rfl ⟨by decide, by decide⟩ (by decide) (by decide) rfl (Nat.le_of_ble_eq_true rfl) (fun x24 I24 J24 q24 => ?_)
  obtain ⟨rfl, rfl, rfl⟩ := rvq q24
  refine pw_if_eq (tgt := 32) dX6_about_27 (by decide) (fun z => absurd z (by decide)) (fun _ => ?_)
  refine pw_iconst (v := 0) dX6_about_30 (by decide) ?_
  refine pw_iret dX6_about_31 rfl rfl (by decide) (by decide) ?_
  exact ⟨_, rfl, rfl, rfl, rfl, by rw [t10], rfl⟩
set_option maxRecDepth 100000 in
set_option maxHeartbeats 4000000 in
theorem r_about_b {p c : Nat} (r : Int32) (I : pI) (J : pJ) (hp : p < c) (hc : c ≤ 3) (hI : I 64 2 = nI c) (hr : ¬ (0 ≤ r ∧ r ≤ 4)) : pMet yX6_about (pws yX6_about cX6_about 3 (some .int)) { frames := 2, cells := 0, slots := 0, locals := 43 } [.ref 64, .int (nI p), .int r] 84 I J pRs (pOi (fun r I' J' => r = 0 ∧ I' = upI I 64 0 1 ∧ J' = J)) := by
  refine pMet_of (by decide) (Nat.le_of_ble_eq_true rfl) ?_
  refine pw_aload_n dX6_about_0 rfl ?_
  refine pw_aload_n dX6_about_1 rfl ?_
  refine pw_iload_n dX6_about_2 rfl ?_
  refine pw_cVi (ci := 6) (y := yX6_isProcess) (cc := cX6_isProcess) (nL := 2) (ret := (some .boolean)) (rm := { frames := 1, cells := 0, slots := 0, locals := 22 }) dX6_about_3 (r_isProcess _ _ _) w_X6_137 rfl (by decide) rfl ⟨by decide, by decide⟩ (by decide) (by decide) rfl (Nat.le_of_ble_eq_true rfl) (fun x3 I3 J3 q3 => ?_)
  obtain ⟨rfl, rfl, rfl⟩ := rvq q3
  rw [in_p hp hc hI]
  refine pw_if_eq (tgt := 18) dX6_about_6 (by decide) (fun z => absurd z (by decide)) (fun _ => ?_)
  refine pw_iload_n dX6_about_9 rfl ?_
  refine pw_iconst (v := 0) dX6_about_10 (by decide) ?_
  refine pw_iconst (v := 4) dX6_about_11 (by decide) ?_
  refine pw_cSi (y := yX6_in) (cc := cX6_in) (nL := 3) (ret := (some .boolean)) (rm := { frames := 0, cells := 0, slots := 0, locals := 0 }) dX6_about_12 (r_in _ _ _ _ _) w_X6_102 rfl ⟨by decide, by decide⟩ (by decide) (by decide) rfl (Nat.le_of_ble_eq_true rfl) (fun x12 I12 J12 q12 => ?_)
  obtain ⟨rfl, rfl, rfl⟩ := rvq q12
  rw [in_f hr]
  refine pw_if_ne (tgt := 22) dX6_about_15 (by decide) (fun z => absurd z (by decide)) (fun _ => ?_)
  refine pw_iconst (v := 1) dX6_about_18 (by decide) ?_
  refine pw_goto (tgt := 23) dX6_about_19 (by decide) ?_
  refine pw_iconst (v := 0) dX6_about_23 (by decide) ?_
  refine pw_cVi (ci := 6) (y := yX6_refuse) (cc := cX6_refuse) (nL := 3) (ret := (some .boolean)) (rm := { frames := 0, cells := 0, slots := 0, locals := 0 }) dX6_about_24 (r_refuse 1 0 _ _) w_X6_106 rfl (by decide) rfl ⟨by decide, by decide⟩ (by decide) (by decide) rfl (Nat.le_of_ble_eq_true rfl) (fun x24 I24 J24 q24 => ?_)
  obtain ⟨rfl, rfl, rfl⟩ := rvq q24
  refine pw_if_eq (tgt := 32) dX6_about_27 (by decide) (fun z => absurd z (by decide)) (fun _ => ?_)
  refine pw_iconst (v := 0) dX6_about_30 (by decide) ?_
  refine pw_iret dX6_about_31 rfl rfl (by decide) (by decide) ?_
  exact ⟨_, rfl, rfl, rfl, rfl, by rw [t10], rfl⟩
def abR (I : pI) (p : Nat) (w : Int32) : Int32 := if w = 0 then I 68 p else if w = 1 then I 69 p else if w = 2 then (if I 71 p = 0 then 0 else 1) else if w = 3 then I 72 p else I 73 p
set_option maxRecDepth 100000 in
set_option maxHeartbeats 4000000 in
theorem r_about {p c : Nat} (w : Int32) (I : pI) (J : pJ) (hp : p < c) (hc : c ≤ 3) (hI : I 64 2 = nI c) (hr : 0 ≤ w ∧ w ≤ 4) : pMet yX6_about (pws yX6_about cX6_about 3 (some .int)) { frames := 2, cells := 0, slots := 0, locals := 43 } [.ref 64, .int (nI p), .int w] 84 I J pRs (pOi (fun r I' J' => r = abR I p w ∧ I' = upI I 64 0 0 ∧ J' = J)) := by
  refine pMet_of (by decide) (Nat.le_of_ble_eq_true rfl) ?_
  refine pw_aload_n dX6_about_0 rfl ?_
  refine pw_aload_n dX6_about_1 rfl ?_
  refine pw_iload_n dX6_about_2 rfl ?_
  refine pw_cVi (ci := 6) (y := yX6_isProcess) (cc := cX6_isProcess) (nL := 2) (ret := (some .boolean)) (rm := { frames := 1, cells := 0, slots := 0, locals := 22 }) dX6_about_3 (r_isProcess _ _ _) w_X6_137 rfl (by decide) rfl ⟨by decide, by decide⟩ (by decide) (by decide) rfl (Nat.le_of_ble_eq_true rfl) (fun x3 I3 J3 q3 => ?_)
  obtain ⟨rfl, rfl, rfl⟩ := rvq q3
  rw [in_p hp hc hI]
  refine pw_if_eq (tgt := 18) dX6_about_6 (by decide) (fun z => absurd z (by decide)) (fun _ => ?_)
  refine pw_iload_n dX6_about_9 rfl ?_
  refine pw_iconst (v := 0) dX6_about_10 (by decide) ?_
  refine pw_iconst (v := 4) dX6_about_11 (by decide) ?_
  refine pw_cSi (y := yX6_in) (cc := cX6_in) (nL := 3) (ret := (some .boolean)) (rm := { frames := 0, cells := 0, slots := 0, locals := 0 }) dX6_about_12 (r_in _ _ _ _ _) w_X6_102 rfl ⟨by decide, by decide⟩ (by decide) (by decide) rfl (Nat.le_of_ble_eq_true rfl) (fun x12 I12 J12 q12 => ?_)
  obtain ⟨rfl, rfl, rfl⟩ := rvq q12
  rw [in_t hr]
  refine pw_if_ne (tgt := 22) dX6_about_15 (by decide) (fun _ => ?_) (fun z => absurd z (by decide))
  refine pw_iconst (v := 0) dX6_about_22 (by decide) ?_
  refine pw_iconst (v := 0) dX6_about_23 (by decide) ?_
  refine pw_cVi (ci := 6) (y := yX6_refuse) (cc := cX6_refuse) (nL := 3) (ret := (some .boolean)) (rm := { frames := 0, cells := 0, slots := 0, locals := 0 }) dX6_about_24 (r_refuse 0 0 _ _) w_X6_106 rfl (by decide) rfl ⟨by decide, by decide⟩ (by decide) (by decide) rfl (Nat.le_of_ble_eq_true rfl) (fun x24 I24 J24 q24 => ?_)
  obtain ⟨rfl, rfl, rfl⟩ := rvq q24
  refine pw_if_eq (tgt := 32) dX6_about_27 (by decide) (fun _ => ?_) (fun z => absurd z (by decide))
  refine pw_iload_n dX6_about_32 rfl ?_
  refine pw_tsw dX6_about_33 (fun i33 hi33 s33 => ?_) (fun o33 => ?_)
  · rcases (show i33 = 0 ∨ i33 = 1 ∨ i33 = 2 ∨ i33 = 3 by omega) with rfl | rfl | rfl | rfl
    · replace s33 := s33.trans (show _ = (0 : Int32) by decide)
      refine ⟨_, 64, rfl, by decide, ?_⟩
      refine pw_aload_n dX6_about_64 rfl ?_
      refine pw_getr dX6_about_65 fl_X6_26 rfl rfl (by decide) (by decide) rfl ?_
      refine pw_iload_n dX6_about_68 rfl ?_
      refine pw_iald dX6_about_69 rfl (by decide) (by decide) (vp_in_nI (by omega) (by decide)) ?_
      rw [nI_clamp (show p < 2 ^ 31 by omega)]
      rw [upI_a (by decide)]
      refine pw_iret dX6_about_70 rfl rfl (by decide) (by decide) ?_
      exact ⟨_, rfl, rfl, rfl, by first | (simp [abR, s33, h84]; done) | (simp [abR, s33]; done) | simp [abR, n0, n1, n2, n3], by rw [t00], rfl⟩
    · replace s33 := s33.trans (show _ = (1 : Int32) by decide)
      refine ⟨_, 71, rfl, by decide, ?_⟩
      refine pw_aload_n dX6_about_71 rfl ?_
      refine pw_getr dX6_about_72 fl_X6_29 rfl rfl (by decide) (by decide) rfl ?_
      refine pw_iload_n dX6_about_75 rfl ?_
      refine pw_iald dX6_about_76 rfl (by decide) (by decide) (vp_in_nI (by omega) (by decide)) ?_
      rw [nI_clamp (show p < 2 ^ 31 by omega)]
      rw [upI_a (by decide)]
      refine pw_iret dX6_about_77 rfl rfl (by decide) (by decide) ?_
      exact ⟨_, rfl, rfl, rfl, by first | (simp [abR, s33, h84]; done) | (simp [abR, s33]; done) | simp [abR, n0, n1, n2, n3], by rw [t00], rfl⟩
    · replace s33 := s33.trans (show _ = (2 : Int32) by decide)
      refine ⟨_, 78, rfl, by decide, ?_⟩
      refine pw_aload_n dX6_about_78 rfl ?_
      refine pw_getr dX6_about_79 fl_X6_35 rfl rfl (by decide) (by decide) rfl ?_
      refine pw_iload_n dX6_about_82 rfl ?_
      refine pw_zald dX6_about_83 rfl (by decide) (by decide) (vp_in_nI (by omega) (by decide)) ?_
      rw [nI_clamp (show p < 2 ^ 31 by omega)]
      rw [upI_a (by decide)]
      refine pw_if_eq (tgt := 91) dX6_about_84 (by decide) (fun h84 => ?_) (fun h84 => ?_)
      · refine pw_iconst (v := 0) dX6_about_91 (by decide) ?_
        refine pw_iret dX6_about_92 rfl rfl (by decide) (by decide) ?_
        exact ⟨_, rfl, rfl, rfl, by first | (simp [abR, s33, h84]; done) | (simp [abR, s33]; done) | simp [abR, n0, n1, n2, n3], by rw [t00], rfl⟩
      · refine pw_iconst (v := 1) dX6_about_87 (by decide) ?_
        refine pw_goto (tgt := 92) dX6_about_88 (by decide) ?_
        refine pw_iret dX6_about_92 rfl rfl (by decide) (by decide) ?_
        exact ⟨_, rfl, rfl, rfl, by first | (simp [abR, s33, h84]; done) | (simp [abR, s33]; done) | simp [abR, n0, n1, n2, n3], by rw [t00], rfl⟩
    · replace s33 := s33.trans (show _ = (3 : Int32) by decide)
      refine ⟨_, 93, rfl, by decide, ?_⟩
      refine pw_aload_n dX6_about_93 rfl ?_
      refine pw_getr dX6_about_94 fl_X6_39 rfl rfl (by decide) (by decide) rfl ?_
      refine pw_iload_n dX6_about_97 rfl ?_
      refine pw_iald dX6_about_98 rfl (by decide) (by decide) (vp_in_nI (by omega) (by decide)) ?_
      rw [nI_clamp (show p < 2 ^ 31 by omega)]
      rw [upI_a (by decide)]
      refine pw_iret dX6_about_99 rfl rfl (by decide) (by decide) ?_
      exact ⟨_, rfl, rfl, rfl, by first | (simp [abR, s33, h84]; done) | (simp [abR, s33]; done) | simp [abR, n0, n1, n2, n3], by rw [t00], rfl⟩
  · refine ⟨100, by decide, ?_⟩
    have n0 : ¬ w = 0 := fun e => by rw [e] at o33; revert o33; decide
    have n1 : ¬ w = 1 := fun e => by rw [e] at o33; revert o33; decide
    have n2 : ¬ w = 2 := fun e => by rw [e] at o33; revert o33; decide
    have n3 : ¬ w = 3 := fun e => by rw [e] at o33; revert o33; decide
    refine pw_aload_n dX6_about_100 rfl ?_
    refine pw_getr dX6_about_101 fl_X6_42 rfl rfl (by decide) (by decide) rfl ?_
    refine pw_iload_n dX6_about_104 rfl ?_
    refine pw_iald dX6_about_105 rfl (by decide) (by decide) (vp_in_nI (by omega) (by decide)) ?_
    rw [nI_clamp (show p < 2 ^ 31 by omega)]
    rw [upI_a (by decide)]
    refine pw_iret dX6_about_106 rfl rfl (by decide) (by decide) ?_
    exact ⟨_, rfl, rfl, rfl, by first | (simp [abR, s33, h84]; done) | (simp [abR, s33]; done) | simp [abR, n0, n1, n2, n3], by rw [t00], rfl⟩
set_option maxRecDepth 100000 in
set_option maxHeartbeats 4000000 in
theorem r_trail_x (x : Int32) (I : pI) (J : pJ) (hx : ¬ (-1 ≤ x ∧ x ≤ I 64 21 - 1)) : pMet yX6_trail (pws yX6_trail cX6_trail 2 (some .int)) { frames := 1, cells := 0, slots := 0, locals := 22 } [.ref 64, .int x] 84 I J pRs (pOi (fun r I' J' => r = 0 ∧ I' = upI I 64 0 1 ∧ J' = J)) := by
  refine pMet_of (by decide) (Nat.le_of_ble_eq_true rfl) ?_
  refine pw_aload_n dX6_trail_0 rfl ?_
  refine pw_iload_n dX6_trail_1 rfl ?_
  refine pw_iconst (v := (-1)) dX6_trail_2 (by decide) ?_
  refine pw_aload_n dX6_trail_3 rfl ?_
  refine pw_geti dX6_trail_4 fl_X6_198 rfl rfl (by decide) (by decide) ?_
  refine pw_iconst (v := 1) dX6_trail_7 (by decide) ?_
  refine pw_isub dX6_trail_8 ?_
  refine pw_cSi (y := yX6_in) (cc := cX6_in) (nL := 3) (ret := (some .boolean)) (rm := { frames := 0, cells := 0, slots := 0, locals := 0 }) dX6_trail_9 (r_in _ _ _ _ _) w_X6_102 rfl ⟨by decide, by decide⟩ (by decide) (by decide) rfl (Nat.le_of_ble_eq_true rfl) (fun x9 I9 J9 q9 => ?_)
  obtain ⟨rfl, rfl, rfl⟩ := rvq q9
  rw [in_f hx]
  refine pw_if_ne (tgt := 19) dX6_trail_12 (by decide) (fun z => absurd z (by decide)) (fun _ => ?_)
  refine pw_iconst (v := 1) dX6_trail_15 (by decide) ?_
  refine pw_goto (tgt := 20) dX6_trail_16 (by decide) ?_
  refine pw_iconst (v := 0) dX6_trail_20 (by decide) ?_
  refine pw_cVi (ci := 6) (y := yX6_refuse) (cc := cX6_refuse) (nL := 3) (ret := (some .boolean)) (rm := { frames := 0, cells := 0, slots := 0, locals := 0 }) dX6_trail_21 (r_refuse 1 0 _ _) w_X6_106 rfl (by decide) rfl ⟨by decide, by decide⟩ (by decide) (by decide) rfl (Nat.le_of_ble_eq_true rfl) (fun x21 I21 J21 q21 => ?_)
  obtain ⟨rfl, rfl, rfl⟩ := rvq q21
  refine pw_if_eq (tgt := 29) dX6_trail_24 (by decide) (fun z => absurd z (by decide)) (fun _ => ?_)
  refine pw_iconst (v := 0) dX6_trail_27 (by decide) ?_
  refine pw_iret dX6_trail_28 rfl rfl (by decide) (by decide) ?_
  exact ⟨_, rfl, rfl, rfl, rfl, by rw [t10], rfl⟩
set_option maxRecDepth 100000 in
set_option maxHeartbeats 4000000 in
theorem r_trail_n {n : Nat} (I : pI) (J : pJ) (hn : n ≤ 3000) (hI : I 64 21 = nI n) : pMet yX6_trail (pws yX6_trail cX6_trail 2 (some .int)) { frames := 1, cells := 0, slots := 0, locals := 22 } [.ref 64, .int (-1)] 84 I J pRs (pOi (fun r I' J' => r = I 64 21 ∧ I' = upI I 64 0 0 ∧ J' = J)) := by
  have hx : (-1 : Int32) ≤ -1 ∧ (-1 : Int32) ≤ I 64 21 - 1 := by
    refine ⟨by decide, ?_⟩
    rw [hI, Int32.le_iff_toInt_le, show (-1 : Int32).toInt = -1 by decide, show (1 : Int32) = nI 1 by decide, pk_sub_toInt (by omega) (by decide)]
    omega
  refine pMet_of (by decide) (Nat.le_of_ble_eq_true rfl) ?_
  refine pw_aload_n dX6_trail_0 rfl ?_
  refine pw_iload_n dX6_trail_1 rfl ?_
  refine pw_iconst (v := (-1)) dX6_trail_2 (by decide) ?_
  refine pw_aload_n dX6_trail_3 rfl ?_
  refine pw_geti dX6_trail_4 fl_X6_198 rfl rfl (by decide) (by decide) ?_
  refine pw_iconst (v := 1) dX6_trail_7 (by decide) ?_
  refine pw_isub dX6_trail_8 ?_
  refine pw_cSi (y := yX6_in) (cc := cX6_in) (nL := 3) (ret := (some .boolean)) (rm := { frames := 0, cells := 0, slots := 0, locals := 0 }) dX6_trail_9 (r_in _ _ _ _ _) w_X6_102 rfl ⟨by decide, by decide⟩ (by decide) (by decide) rfl (Nat.le_of_ble_eq_true rfl) (fun x9 I9 J9 q9 => ?_)
  obtain ⟨rfl, rfl, rfl⟩ := rvq q9
  rw [in_t hx]
  refine pw_if_ne (tgt := 19) dX6_trail_12 (by decide) (fun _ => ?_) (fun z => absurd z (by decide))
  refine pw_iconst (v := 0) dX6_trail_19 (by decide) ?_
  refine pw_iconst (v := 0) dX6_trail_20 (by decide) ?_
  refine pw_cVi (ci := 6) (y := yX6_refuse) (cc := cX6_refuse) (nL := 3) (ret := (some .boolean)) (rm := { frames := 0, cells := 0, slots := 0, locals := 0 }) dX6_trail_21 (r_refuse 0 0 _ _) w_X6_106 rfl (by decide) rfl ⟨by decide, by decide⟩ (by decide) (by decide) rfl (Nat.le_of_ble_eq_true rfl) (fun x21 I21 J21 q21 => ?_)
  obtain ⟨rfl, rfl, rfl⟩ := rvq q21
  refine pw_if_eq (tgt := 29) dX6_trail_24 (by decide) (fun _ => ?_) (fun z => absurd z (by decide))
  refine pw_iload_n dX6_trail_29 rfl ?_
  refine pw_if_ge (tgt := 40) dX6_trail_30 (by decide) (fun z => absurd z (by decide)) (fun _ => ?_)
  refine pw_aload_n dX6_trail_33 rfl ?_
  refine pw_geti dX6_trail_34 fl_X6_198 rfl rfl (by decide) (by decide) ?_
  refine pw_goto (tgt := 53) dX6_trail_37 (by decide) ?_
  rw [upI_k (by decide)]
  refine pw_iret dX6_trail_53 rfl rfl (by decide) (by decide) ?_
  exact ⟨_, rfl, rfl, rfl, rfl, by rw [t00], rfl⟩
set_option maxRecDepth 100000 in
set_option maxHeartbeats 4000000 in
theorem r_trail {i n : Nat} (I : pI) (J : pJ) (hi : i < n) (hn : n ≤ 3000) (hI : I 64 21 = nI n) : pMet yX6_trail (pws yX6_trail cX6_trail 2 (some .int)) { frames := 1, cells := 0, slots := 0, locals := 22 } [.ref 64, .int (nI i)] 84 I J pRs (pOi (fun r I' J' => r = I 82 (n - 1 - i) ∧ I' = upI I 64 0 0 ∧ J' = J)) := by
  have hx : (-1 : Int32) ≤ nI i ∧ nI i ≤ I 64 21 - 1 := by
    refine ⟨?_, ?_⟩
    · rw [Int32.le_iff_toInt_le, nI_toInt (by omega), show (-1 : Int32).toInt = -1 by decide]; omega
    · rw [hI, show nI n - (1 : Int32) = nI (n - 1) from pk_sub (b := 1) (by omega)]; exact nI_le (by omega) (by omega)
  refine pMet_of (by decide) (Nat.le_of_ble_eq_true rfl) ?_
  refine pw_aload_n dX6_trail_0 rfl ?_
  refine pw_iload_n dX6_trail_1 rfl ?_
  refine pw_iconst (v := (-1)) dX6_trail_2 (by decide) ?_
  refine pw_aload_n dX6_trail_3 rfl ?_
  refine pw_geti dX6_trail_4 fl_X6_198 rfl rfl (by decide) (by decide) ?_
  refine pw_iconst (v := 1) dX6_trail_7 (by decide) ?_
  refine pw_isub dX6_trail_8 ?_
  refine pw_cSi (y := yX6_in) (cc := cX6_in) (nL := 3) (ret := (some .boolean)) (rm := { frames := 0, cells := 0, slots := 0, locals := 0 }) dX6_trail_9 (r_in _ _ _ _ _) w_X6_102 rfl ⟨by decide, by decide⟩ (by decide) (by decide) rfl (Nat.le_of_ble_eq_true rfl) (fun x9 I9 J9 q9 => ?_)
  obtain ⟨rfl, rfl, rfl⟩ := rvq q9
  rw [in_t hx]
  refine pw_if_ne (tgt := 19) dX6_trail_12 (by decide) (fun _ => ?_) (fun z => absurd z (by decide))
  refine pw_iconst (v := 0) dX6_trail_19 (by decide) ?_
  refine pw_iconst (v := 0) dX6_trail_20 (by decide) ?_
  refine pw_cVi (ci := 6) (y := yX6_refuse) (cc := cX6_refuse) (nL := 3) (ret := (some .boolean)) (rm := { frames := 0, cells := 0, slots := 0, locals := 0 }) dX6_trail_21 (r_refuse 0 0 _ _) w_X6_106 rfl (by decide) rfl ⟨by decide, by decide⟩ (by decide) (by decide) rfl (Nat.le_of_ble_eq_true rfl) (fun x21 I21 J21 q21 => ?_)
  obtain ⟨rfl, rfl, rfl⟩ := rvq q21
  refine pw_if_eq (tgt := 29) dX6_trail_24 (by decide) (fun _ => ?_) (fun z => absurd z (by decide))
  refine pw_iload_n dX6_trail_29 rfl ?_
  refine pw_if_ge (tgt := 40) dX6_trail_30 (by decide) (fun _ => ?_) (fun z => absurd (nI_pos' (by omega)) z)
  refine pw_aload_n dX6_trail_40 rfl ?_
  refine pw_getr dX6_trail_41 fl_X6_70 rfl rfl (by decide) (by decide) rfl ?_
  refine pw_aload_n dX6_trail_44 rfl ?_
  refine pw_geti dX6_trail_45 fl_X6_198 rfl rfl (by decide) (by decide) ?_
  refine pw_iconst (v := 1) dX6_trail_48 (by decide) ?_
  refine pw_isub dX6_trail_49 ?_
  refine pw_iload_n dX6_trail_50 rfl ?_
  refine pw_isub dX6_trail_51 ?_
  rw [upI_k (show (21 : Nat) ≠ 0 by decide), hI, show nI n - (1 : Int32) = nI (n - 1) from pk_sub (b := 1) (by omega), pk_sub (show i ≤ n - 1 by omega)]
  refine pw_iald dX6_trail_52 rfl (by decide) (by decide) (vp_in_nI (by omega) (by decide)) ?_
  rw [nI_clamp (show n - 1 - i < 2 ^ 31 by omega), upI_a (by decide)]
  refine pw_iret dX6_trail_53 rfl rfl (by decide) (by decide) ?_
  exact ⟨_, rfl, rfl, rfl, rfl, by rw [t00], rfl⟩
def chR (I : pI) (i : Nat) (k a b d : Int32) : pI := upI (upI (upI (upI I 65 (4 * i) k) 65 (4 * i + 1) a) 65 (4 * i + 2) b) 65 (4 * i + 3) d
set_option maxRecDepth 100000 in
set_option maxHeartbeats 4000000 in
theorem r_change_1 (x k a b d : Int32) (I : pI) (J : pJ) (hx : ¬ (0 ≤ x ∧ x ≤ 39)) : pMet yX6_change (pws yX6_change cX6_change 6 none) { frames := 3, cells := 0, slots := 0, locals := 65 } [.ref 64, .int x, .int k, .int a, .int b, .int d] 84 I J pRs (pOv (fun I' J' => I' = upI I 64 0 1 ∧ J' = J)) := by
  refine pMet_of (by decide) (Nat.le_of_ble_eq_true rfl) ?_
  refine pw_aload_n dX6_change_0 rfl ?_
  refine pw_iload_n dX6_change_1 rfl ?_
  refine pw_cSi (y := yX6_isPlace) (cc := cX6_isPlace) (nL := 1) (ret := (some .boolean)) (rm := { frames := 1, cells := 0, slots := 0, locals := 22 }) dX6_change_2 (r_isPlace _ _ _) w_X6_120 rfl ⟨by decide, by decide⟩ (by decide) (by decide) rfl (Nat.le_of_ble_eq_true rfl) (fun x2 I2 J2 q2 => ?_)
  obtain ⟨rfl, rfl, rfl⟩ := rvq q2
  rw [in_f hx]
  refine pw_if_eq (tgt := 20) dX6_change_5 (by decide) (fun _ => ?_) (fun z => absurd z (by decide))
  refine pw_iconst (v := 1) dX6_change_20 (by decide) ?_
  refine pw_goto (tgt := 25) dX6_change_21 (by decide) ?_
  refine pw_iconst (v := 0) dX6_change_25 (by decide) ?_
  refine pw_cVi (ci := 6) (y := yX6_refuse) (cc := cX6_refuse) (nL := 3) (ret := (some .boolean)) (rm := { frames := 0, cells := 0, slots := 0, locals := 0 }) dX6_change_26 (r_refuse 1 0 _ _) w_X6_106 rfl (by decide) rfl ⟨by decide, by decide⟩ (by decide) (by decide) rfl (Nat.le_of_ble_eq_true rfl) (fun x26 I26 J26 q26 => ?_)
  obtain ⟨rfl, rfl, rfl⟩ := rvq q26
  refine pw_if_eq (tgt := 33) dX6_change_29 (by decide) (fun z => absurd z (by decide)) (fun _ => ?_)
  refine pw_vret dX6_change_32 rfl (by decide) (by decide) ?_
  exact ⟨rfl, rfl, rfl, by rw [t10], rfl⟩
set_option maxRecDepth 100000 in
set_option maxHeartbeats 4000000 in
theorem r_change_2 {i : Nat} (k a b d : Int32) (I : pI) (J : pJ) (hi : i < 40) (hmb : ¬ mbP k a b d) : pMet yX6_change (pws yX6_change cX6_change 6 none) { frames := 3, cells := 0, slots := 0, locals := 65 } [.ref 64, .int (nI i), .int k, .int a, .int b, .int d] 84 I J pRs (pOv (fun I' J' => I' = upI I 64 0 1 ∧ J' = J)) := by
  have hx : (0 : Int32) ≤ nI i ∧ nI i ≤ 39 := ⟨nI_le (a := 0) (by omega) (by omega), nI_le (b := 39) (by omega) (by decide)⟩
  refine pMet_of (by decide) (Nat.le_of_ble_eq_true rfl) ?_
  refine pw_aload_n dX6_change_0 rfl ?_
  refine pw_iload_n dX6_change_1 rfl ?_
  refine pw_cSi (y := yX6_isPlace) (cc := cX6_isPlace) (nL := 1) (ret := (some .boolean)) (rm := { frames := 1, cells := 0, slots := 0, locals := 22 }) dX6_change_2 (r_isPlace _ _ _) w_X6_120 rfl ⟨by decide, by decide⟩ (by decide) (by decide) rfl (Nat.le_of_ble_eq_true rfl) (fun x2 I2 J2 q2 => ?_)
  obtain ⟨rfl, rfl, rfl⟩ := rvq q2
  rw [in_t hx]
  refine pw_if_eq (tgt := 20) dX6_change_5 (by decide) (fun z => absurd z (by decide)) (fun _ => ?_)
  refine pw_iload_n dX6_change_8 rfl ?_
  refine pw_iload_n dX6_change_9 rfl ?_
  refine pw_iload dX6_change_10 rfl ?_
  refine pw_iload dX6_change_12 rfl ?_
  refine pw_cSi (y := yX6_mayBe) (cc := cX6_mayBe) (nL := 4) (ret := (some .boolean)) (rm := { frames := 2, cells := 0, slots := 0, locals := 42 }) dX6_change_14 (r_mayBe _ _ _ _ _ _) w_X6_123 rfl ⟨by decide, by decide⟩ (by decide) (by decide) rfl (Nat.le_of_ble_eq_true rfl) (fun x14 I14 J14 q14 => ?_)
  obtain ⟨hm, rfl, rfl⟩ := rvq q14
  obtain ⟨rfl, hm⟩ : x14 = 0 ∧ ¬ mbP k a b d := hm.elim (fun z => absurd z.2 hmb) id
  refine pw_if_ne (tgt := 24) dX6_change_17 (by decide) (fun z => absurd z (by decide)) (fun _ => ?_)
  refine pw_iconst (v := 1) dX6_change_20 (by decide) ?_
  refine pw_goto (tgt := 25) dX6_change_21 (by decide) ?_
  refine pw_iconst (v := 0) dX6_change_25 (by decide) ?_
  refine pw_cVi (ci := 6) (y := yX6_refuse) (cc := cX6_refuse) (nL := 3) (ret := (some .boolean)) (rm := { frames := 0, cells := 0, slots := 0, locals := 0 }) dX6_change_26 (r_refuse 1 0 _ _) w_X6_106 rfl (by decide) rfl ⟨by decide, by decide⟩ (by decide) (by decide) rfl (Nat.le_of_ble_eq_true rfl) (fun x26 I26 J26 q26 => ?_)
  obtain ⟨rfl, rfl, rfl⟩ := rvq q26
  refine pw_if_eq (tgt := 33) dX6_change_29 (by decide) (fun z => absurd z (by decide)) (fun _ => ?_)
  refine pw_vret dX6_change_32 rfl (by decide) (by decide) ?_
  exact ⟨rfl, rfl, rfl, by rw [t10], rfl⟩
set_option maxRecDepth 100000 in
set_option maxHeartbeats 4000000 in
theorem r_change {i : Nat} (k a b d : Int32) (I : pI) (J : pJ) (hi : i < 40) (hmb : mbP k a b d) : pMet yX6_change (pws yX6_change cX6_change 6 none) { frames := 3, cells := 0, slots := 0, locals := 65 } [.ref 64, .int (nI i), .int k, .int a, .int b, .int d] 84 I J pRs (pOv (fun I' J' => I' = chR (upI I 64 0 0) i k a b d ∧ J' = J)) := by
  have hx : (0 : Int32) ≤ nI i ∧ nI i ≤ 39 := ⟨nI_le (a := 0) (by omega) (by omega), nI_le (b := 39) (by omega) (by decide)⟩
  have e40 : (4 : Int32) * nI i = nI (4 * i) := by rw [show (4 : Int32) = nI 4 by decide, pk_mul]
  have e41 : nI (4 * i) + (1 : Int32) = nI (4 * i + 1) := nI_1 _
  have e42 : nI (4 * i) + (2 : Int32) = nI (4 * i + 2) := by rw [show (2 : Int32) = nI 2 by decide, nI_add]
  have e43 : nI (4 * i) + (3 : Int32) = nI (4 * i + 3) := by rw [show (3 : Int32) = nI 3 by decide, nI_add]
  refine pMet_of (by decide) (Nat.le_of_ble_eq_true rfl) ?_
  refine pw_aload_n dX6_change_0 rfl ?_
  refine pw_iload_n dX6_change_1 rfl ?_
  refine pw_cSi (y := yX6_isPlace) (cc := cX6_isPlace) (nL := 1) (ret := (some .boolean)) (rm := { frames := 1, cells := 0, slots := 0, locals := 22 }) dX6_change_2 (r_isPlace _ _ _) w_X6_120 rfl ⟨by decide, by decide⟩ (by decide) (by decide) rfl (Nat.le_of_ble_eq_true rfl) (fun x2 I2 J2 q2 => ?_)
  obtain ⟨rfl, rfl, rfl⟩ := rvq q2
  rw [in_t hx]
  refine pw_if_eq (tgt := 20) dX6_change_5 (by decide) (fun z => absurd z (by decide)) (fun _ => ?_)
  refine pw_iload_n dX6_change_8 rfl ?_
  refine pw_iload_n dX6_change_9 rfl ?_
  refine pw_iload dX6_change_10 rfl ?_
  refine pw_iload dX6_change_12 rfl ?_
  refine pw_cSi (y := yX6_mayBe) (cc := cX6_mayBe) (nL := 4) (ret := (some .boolean)) (rm := { frames := 2, cells := 0, slots := 0, locals := 42 }) dX6_change_14 (r_mayBe _ _ _ _ _ _) w_X6_123 rfl ⟨by decide, by decide⟩ (by decide) (by decide) rfl (Nat.le_of_ble_eq_true rfl) (fun x14 I14 J14 q14 => ?_)
  obtain ⟨hm, rfl, rfl⟩ := rvq q14
  obtain ⟨rfl, hm⟩ : x14 = 1 ∧ mbP k a b d := hm.elim id (fun z => absurd hmb z.2)
  refine pw_if_ne (tgt := 24) dX6_change_17 (by decide) (fun _ => ?_) (fun z => absurd z (by decide))
  refine pw_iconst (v := 0) dX6_change_24 (by decide) ?_
  refine pw_iconst (v := 0) dX6_change_25 (by decide) ?_
  refine pw_cVi (ci := 6) (y := yX6_refuse) (cc := cX6_refuse) (nL := 3) (ret := (some .boolean)) (rm := { frames := 0, cells := 0, slots := 0, locals := 0 }) dX6_change_26 (r_refuse 0 0 _ _) w_X6_106 rfl (by decide) rfl ⟨by decide, by decide⟩ (by decide) (by decide) rfl (Nat.le_of_ble_eq_true rfl) (fun x26 I26 J26 q26 => ?_)
  obtain ⟨rfl, rfl, rfl⟩ := rvq q26
  refine pw_if_eq (tgt := 33) dX6_change_29 (by decide) (fun _ => ?_) (fun z => absurd z (by decide))
  refine pw_aload_n dX6_change_33 rfl ?_
  refine pw_getr dX6_change_34 fl_X6_16 rfl rfl (by decide) (by decide) rfl ?_
  refine pw_iconst (v := 4) dX6_change_37 (by decide) ?_
  refine pw_iload_n dX6_change_38 rfl ?_
  refine pw_imul dX6_change_39 ?_
  rw [e40]
  refine pw_iload_n dX6_change_40 rfl ?_
  refine pw_iast dX6_change_41 rfl (by decide) (by decide) (vp_in_nI (by omega) (by decide)) ?_
  rw [nI_clamp (show 4 * i < 2 ^ 31 by omega)]
  refine pw_aload_n dX6_change_42 rfl ?_
  refine pw_getr dX6_change_43 fl_X6_16 rfl rfl (by decide) (by decide) rfl ?_
  refine pw_iconst (v := 4) dX6_change_46 (by decide) ?_
  refine pw_iload_n dX6_change_47 rfl ?_
  refine pw_imul dX6_change_48 ?_
  rw [e40]
  refine pw_iconst (v := 1) dX6_change_49 (by decide) ?_
  refine pw_iadd dX6_change_50 ?_
  rw [e41]
  refine pw_iload_n dX6_change_51 rfl ?_
  refine pw_iast dX6_change_52 rfl (by decide) (by decide) (vp_in_nI (by omega) (by decide)) ?_
  rw [nI_clamp (show 4 * i + 1 < 2 ^ 31 by omega)]
  refine pw_aload_n dX6_change_53 rfl ?_
  refine pw_getr dX6_change_54 fl_X6_16 rfl rfl (by decide) (by decide) rfl ?_
  refine pw_iconst (v := 4) dX6_change_57 (by decide) ?_
  refine pw_iload_n dX6_change_58 rfl ?_
  refine pw_imul dX6_change_59 ?_
  rw [e40]
  refine pw_iconst (v := 2) dX6_change_60 (by decide) ?_
  refine pw_iadd dX6_change_61 ?_
  rw [e42]
  refine pw_iload dX6_change_62 rfl ?_
  refine pw_iast dX6_change_64 rfl (by decide) (by decide) (vp_in_nI (by omega) (by decide)) ?_
  rw [nI_clamp (show 4 * i + 2 < 2 ^ 31 by omega)]
  refine pw_aload_n dX6_change_65 rfl ?_
  refine pw_getr dX6_change_66 fl_X6_16 rfl rfl (by decide) (by decide) rfl ?_
  refine pw_iconst (v := 4) dX6_change_69 (by decide) ?_
  refine pw_iload_n dX6_change_70 rfl ?_
  refine pw_imul dX6_change_71 ?_
  rw [e40]
  refine pw_iconst (v := 3) dX6_change_72 (by decide) ?_
  refine pw_iadd dX6_change_73 ?_
  rw [e43]
  refine pw_iload dX6_change_74 rfl ?_
  refine pw_iast dX6_change_76 rfl (by decide) (by decide) (vp_in_nI (by omega) (by decide)) ?_
  rw [nI_clamp (show 4 * i + 3 < 2 ^ 31 by omega)]
  refine pw_vret dX6_change_77 rfl (by decide) (by decide) ?_
  exact ⟨rfl, rfl, rfl, by rw [t00, chR], rfl⟩
