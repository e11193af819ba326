/-! LEAVES OF THE REFERENCE (its object is at 64) -/
theorem nb_if {p : Prop} [Decidable p] : narrow .boolean (.int (if p then 1 else 0)) = .int (if p then 1 else 0) := by split <;> rfl
theorem if1_ne {p : Prop} [Decidable p] : (if p then (1 : Int32) else 0) ≠ 0 ↔ p := by by_cases h : p <;> simp [h]
theorem if1_eq {p : Prop} [Decidable p] : (if p then (1 : Int32) else 0) = 0 ↔ ¬ p := by by_cases h : p <;> simp [h]
abbrev isIn (v lo hi : Int32) : Int32 := if lo ≤ v ∧ v ≤ hi then 1 else 0
set_option maxRecDepth 100000 in
set_option maxHeartbeats 4000000 in
theorem r_in (v lo hi : Int32) (I : pI) (J : pJ) : pMet yX6_in (pws yX6_in cX6_in 3 (some .boolean)) { frames := 0, cells := 0, slots := 0, locals := 0 } [.int v, .int lo, .int hi] 84 I J pRs (pOi (fun r I' J' => r = isIn v lo hi ∧ I' = I ∧ J' = J)) := by
  refine pMet_of (by decide) (Nat.le_of_ble_eq_true rfl) ?_
  refine pw_iload_n dX6_in_0 rfl ?_
  refine pw_iload_n dX6_in_1 rfl ?_
  refine pw_icmp_lt (tgt := 14) dX6_in_2 (by decide) (fun h2 => ?_) (fun h2 => ?_)
  · refine pw_iconst (v := 0) dX6_in_14 (by decide) ?_
    refine pw_iret dX6_in_15 rfl rfl (by decide) (by decide) ?_
    exact ⟨_, rfl, rfl, rfl, by rw [isIn, if_neg (fun z => absurd h2 (Int32.not_lt.mpr z.1))], rfl, rfl⟩
  · refine pw_iload_n dX6_in_5 rfl ?_
    refine pw_iload_n dX6_in_6 rfl ?_
    refine pw_icmp_gt (tgt := 14) dX6_in_7 (by decide) (fun h7 => ?_) (fun h7 => ?_)
    · refine pw_iconst (v := 0) dX6_in_14 (by decide) ?_
      refine pw_iret dX6_in_15 rfl rfl (by decide) (by decide) ?_
      exact ⟨_, rfl, rfl, rfl, by rw [isIn, if_neg (fun z => absurd h7 (Int32.not_lt.mpr z.2))], rfl, rfl⟩
    · refine pw_iconst (v := 1) dX6_in_10 (by decide) ?_
      refine pw_goto (tgt := 15) dX6_in_11 (by decide) ?_
      refine pw_iret dX6_in_15 rfl rfl (by decide) (by decide) ?_
      exact ⟨_, rfl, rfl, rfl, by rw [isIn, if_pos ⟨Int32.not_lt.mp h2, Int32.not_lt.mp h7⟩], rfl, rfl⟩
set_option maxRecDepth 100000 in
set_option maxHeartbeats 4000000 in
theorem r_isRegister (v : Int32) (I : pI) (J : pJ) : pMet yX6_isRegister (pws yX6_isRegister cX6_isRegister 1 (some .boolean)) { frames := 1, cells := 0, slots := 0, locals := 22 } [.int v] 84 I J pRs (pOi (fun r I' J' => r = isIn v 0 5 ∧ I' = I ∧ J' = J)) := by
  refine pMet_of (by decide) (Nat.le_of_ble_eq_true rfl) ?_
  refine pw_iload_n dX6_isRegister_0 rfl ?_
  refine pw_iconst (v := 0) dX6_isRegister_1 (by decide) ?_
  refine pw_iconst (v := 5) dX6_isRegister_2 (by decide) ?_
  refine pw_cSi (y := yX6_in) (cc := cX6_in) (nL := 3) (ret := (some .boolean)) (rm := { frames := 0, cells := 0, slots := 0, locals := 0 }) dX6_isRegister_3 (r_in _ _ _ _ _) w_X6_102 rfl ⟨by decide, by decide⟩ (by decide) (by decide) rfl (Nat.le_of_ble_eq_true rfl) (fun x3 I3 J3 q3 => ?_)
  obtain ⟨rfl, rfl, rfl⟩ := rvq q3
  refine pw_iret dX6_isRegister_6 rfl nb_if (by decide) (by decide) ?_
  exact ⟨_, rfl, rfl, rfl, rfl, rfl, rfl⟩
set_option maxRecDepth 100000 in
set_option maxHeartbeats 4000000 in
theorem r_isPlace (v : Int32) (I : pI) (J : pJ) : pMet yX6_isPlace (pws yX6_isPlace cX6_isPlace 1 (some .boolean)) { frames := 1, cells := 0, slots := 0, locals := 22 } [.int v] 84 I J pRs (pOi (fun r I' J' => r = isIn v 0 39 ∧ I' = I ∧ J' = J)) := by
  refine pMet_of (by decide) (Nat.le_of_ble_eq_true rfl) ?_
  refine pw_iload_n dX6_isPlace_0 rfl ?_
  refine pw_iconst (v := 0) dX6_isPlace_1 (by decide) ?_
  refine pw_bipush (v := 39) dX6_isPlace_2 (by decide) ?_
  refine pw_cSi (y := yX6_in) (cc := cX6_in) (nL := 3) (ret := (some .boolean)) (rm := { frames := 0, cells := 0, slots := 0, locals := 0 }) dX6_isPlace_4 (r_in _ _ _ _ _) w_X6_102 rfl ⟨by decide, by decide⟩ (by decide) (by decide) rfl (Nat.le_of_ble_eq_true rfl) (fun x4 I4 J4 q4 => ?_)
  obtain ⟨rfl, rfl, rfl⟩ := rvq q4
  refine pw_iret dX6_isPlace_7 rfl nb_if (by decide) (by decide) ?_
  exact ⟨_, rfl, rfl, rfl, rfl, rfl, rfl⟩
set_option maxRecDepth 100000 in
set_option maxHeartbeats 4000000 in
theorem r_isProcess (v : Int32) (I : pI) (J : pJ) : pMet yX6_isProcess (pws yX6_isProcess cX6_isProcess 2 (some .boolean)) { frames := 1, cells := 0, slots := 0, locals := 22 } [.ref 64, .int v] 84 I J pRs (pOi (fun r I' J' => r = isIn v 0 (I 64 2 - 1) ∧ I' = I ∧ J' = J)) := by
  refine pMet_of (by decide) (Nat.le_of_ble_eq_true rfl) ?_
  refine pw_iload_n dX6_isProcess_0 rfl ?_
  refine pw_iconst (v := 0) dX6_isProcess_1 (by decide) ?_
  refine pw_aload_n dX6_isProcess_2 rfl ?_
  refine pw_geti dX6_isProcess_3 fl_X6_13 rfl rfl (by decide) (by decide) ?_
  refine pw_iconst (v := 1) dX6_isProcess_6 (by decide) ?_
  refine pw_isub dX6_isProcess_7 ?_
  refine pw_cSi (y := yX6_in) (cc := cX6_in) (nL := 3) (ret := (some .boolean)) (rm := { frames := 0, cells := 0, slots := 0, locals := 0 }) dX6_isProcess_8 (r_in _ _ _ _ _) w_X6_102 rfl ⟨by decide, by decide⟩ (by decide) (by decide) rfl (Nat.le_of_ble_eq_true rfl) (fun x8 I8 J8 q8 => ?_)
  obtain ⟨rfl, rfl, rfl⟩ := rvq q8
  refine pw_iret dX6_isProcess_11 rfl nb_if (by decide) (by decide) ?_
  exact ⟨_, rfl, rfl, rfl, rfl, rfl, rfl⟩
def rfT (f g : Int32) : Int32 := if f = 0 then (if g = 0 then 0 else 2) else 1
set_option maxRecDepth 100000 in
set_option maxHeartbeats 4000000 in
theorem r_refuse (f g : Int32) (I : pI) (J : pJ) : pMet yX6_refuse (pws yX6_refuse cX6_refuse 3 (some .boolean)) { frames := 0, cells := 0, slots := 0, locals := 0 } [.ref 64, .int f, .int g] 84 I J pRs (pOi (fun r I' J' => r = (if rfT f g ≤ 0 then 0 else 1) ∧ I' = upI I 64 0 (rfT f g) ∧ J' = J)) := by
  refine pMet_of (by decide) (Nat.le_of_ble_eq_true rfl) ?_
  refine pw_aload_n dX6_refuse_0 rfl ?_
  refine pw_iload_n dX6_refuse_1 rfl ?_
  refine pw_if_eq (tgt := 9) dX6_refuse_2 (by decide) (fun h2 => ?_) (fun h2 => ?_)
  · refine pw_iload_n dX6_refuse_9 rfl ?_
    refine pw_if_eq (tgt := 17) dX6_refuse_10 (by decide) (fun h10 => ?_) (fun h10 => ?_)
    · refine pw_iconst (v := 0) dX6_refuse_17 (by decide) ?_
      refine pw_puti dX6_refuse_18 fl_X6_77 rfl rfl rfl rfl rfl (by decide) (by decide) ?_
      refine pw_aload_n dX6_refuse_21 rfl ?_
      refine pw_geti dX6_refuse_22 fl_X6_77 rfl rfl (by decide) (by decide) ?_
      rw [upI_s]
      refine pw_if_le (tgt := 32) dX6_refuse_25 (by decide) (fun h25 => ?_) (fun h25 => ?_)
      · refine pw_iconst (v := 0) dX6_refuse_32 (by decide) ?_
        refine pw_iret dX6_refuse_33 rfl rfl (by decide) (by decide) ?_
        exact ⟨_, rfl, rfl, rfl, by rw [rfT, if_pos h2, if_pos h10]; rfl, by rw [rfT, if_pos h2, if_pos h10], rfl⟩
      · refine pw_iconst (v := 1) dX6_refuse_28 (by decide) ?_
        refine pw_goto (tgt := 33) dX6_refuse_29 (by decide) ?_
        refine pw_iret dX6_refuse_33 rfl rfl (by decide) (by decide) ?_
        exact absurd (show (0 : Int32) ≤ 0 by decide) h25
    · refine pw_iconst (v := 2) dX6_refuse_13 (by decide) ?_
      refine pw_goto (tgt := 18) dX6_refuse_14 (by decide) ?_
      refine pw_puti dX6_refuse_18 fl_X6_77 rfl rfl rfl rfl rfl (by decide) (by decide) ?_
      refine pw_aload_n dX6_refuse_21 rfl ?_
      refine pw_geti dX6_refuse_22 fl_X6_77 rfl rfl (by decide) (by decide) ?_
      rw [upI_s]
      refine pw_if_le (tgt := 32) dX6_refuse_25 (by decide) (fun h25_1 => ?_) (fun h25_1 => ?_)
      · refine pw_iconst (v := 0) dX6_refuse_32 (by decide) ?_
        refine pw_iret dX6_refuse_33 rfl rfl (by decide) (by decide) ?_
        exact absurd h25_1 (by decide)
      · refine pw_iconst (v := 1) dX6_refuse_28 (by decide) ?_
        refine pw_goto (tgt := 33) dX6_refuse_29 (by decide) ?_
        refine pw_iret dX6_refuse_33 rfl rfl (by decide) (by decide) ?_
        exact ⟨_, rfl, rfl, rfl, by rw [rfT, if_pos h2, if_neg h10]; rfl, by rw [rfT, if_pos h2, if_neg h10], rfl⟩
  · refine pw_iconst (v := 1) dX6_refuse_5 (by decide) ?_
    refine pw_goto (tgt := 18) dX6_refuse_6 (by decide) ?_
    refine pw_puti dX6_refuse_18 fl_X6_77 rfl rfl rfl rfl rfl (by decide) (by decide) ?_
    refine pw_aload_n dX6_refuse_21 rfl ?_
    refine pw_geti dX6_refuse_22 fl_X6_77 rfl rfl (by decide) (by decide) ?_
    rw [upI_s]
    refine pw_if_le (tgt := 32) dX6_refuse_25 (by decide) (fun h25_2 => ?_) (fun h25_2 => ?_)
    · refine pw_iconst (v := 0) dX6_refuse_32 (by decide) ?_
      refine pw_iret dX6_refuse_33 rfl rfl (by decide) (by decide) ?_
      exact absurd h25_2 (by decide)
    · refine pw_iconst (v := 1) dX6_refuse_28 (by decide) ?_
      refine pw_goto (tgt := 33) dX6_refuse_29 (by decide) ?_
      refine pw_iret dX6_refuse_33 rfl rfl (by decide) (by decide) ?_
      exact ⟨_, rfl, rfl, rfl, by rw [rfT, if_neg h2]; rfl, by rw [rfT, if_neg h2], rfl⟩
set_option maxRecDepth 100000 in
set_option maxHeartbeats 4000000 in
theorem r_thrown (I : pI) (J : pJ) : pMet yX6_thrown (pws yX6_thrown cX6_thrown 1 (some .int)) { frames := 0, cells := 0, slots := 0, locals := 0 } [.ref 64] 84 I J pRs (pOi (fun r I' J' => r = I 64 0 ∧ I' = I ∧ J' = J)) := by
  refine pMet_of (by decide) (Nat.le_of_ble_eq_true rfl) ?_
  refine pw_aload_n dX6_thrown_0 rfl ?_
  refine pw_geti dX6_thrown_1 fl_X6_77 rfl rfl (by decide) (by decide) ?_
  refine pw_iret dX6_thrown_4 rfl rfl (by decide) (by decide) ?_
  exact ⟨_, rfl, rfl, rfl, rfl, rfl, rfl⟩
set_option maxRecDepth 100000 in
set_option maxHeartbeats 4000000 in
theorem r_states (I : pI) (J : pJ) : pMet yX6_states (pws yX6_states cX6_states 1 (some .int)) { frames := 0, cells := 0, slots := 0, locals := 0 } [.ref 64] 84 I J pRs (pOi (fun r I' J' => r = I 64 12 ∧ I' = upI I 64 0 0 ∧ J' = J)) := by
  refine pMet_of (by decide) (Nat.le_of_ble_eq_true rfl) ?_
  refine pw_aload_n dX6_states_0 rfl ?_
  refine pw_iconst (v := 0) dX6_states_1 (by decide) ?_
  refine pw_puti dX6_states_2 fl_X6_77 rfl rfl rfl rfl rfl (by decide) (by decide) ?_
  refine pw_aload_n dX6_states_5 rfl ?_
  refine pw_geti dX6_states_6 fl_X6_171 rfl rfl (by decide) (by decide) ?_
  refine pw_iret dX6_states_9 rfl rfl (by decide) (by decide) ?_
  exact ⟨_, rfl, rfl, rfl, by rw [upI_k (by decide)], rfl, rfl⟩
def isI (I : pI) (t : Nat) (x : Int32 × Int32 × Int32 × Int32) : pI := upI (upI (upI (upI (upI I 66 (4 * t) x.1) 66 (4 * t + 1) x.2.1) 66 (4 * t + 2) x.2.2.1) 66 (4 * t + 3) x.2.2.2) 64 23 (nI (t + 1))
def isL : List (Int32 × Int32 × Int32 × Int32) → Nat → pI → pI
  | [], _, I => I
  | x :: xs, t, I => isL xs (t + 1) (isI I t x)
theorem isI_at {I : pI} {t : Nat} {x : Int32 × Int32 × Int32 × Int32} : isI I t x 64 23 = nI (t + 1) := by unfold isI; exact upI_s _ _ _ _
set_option maxRecDepth 100000 in
set_option maxHeartbeats 4000000 in
theorem r_is {t : Nat} (k a b d : Int32) (I : pI) (J : pJ) (ht : t < 40) (hI : I 64 23 = nI t) : pMet yX6_is (pws yX6_is cX6_is 5 none) { frames := 0, cells := 0, slots := 0, locals := 0 } [.ref 64, .int k, .int a, .int b, .int d] 84 I J pRs (pOv (fun I' J' => I' = isI I t (k, a, b, d) ∧ J' = J)) := by
  have e40 : (4 : Int32) * nI t = nI (4 * t) := by rw [show (4 : Int32) = nI 4 by decide, pk_mul]
  have e41 : nI (4 * t) + (1 : Int32) = nI (4 * t + 1) := nI_1 _
  have e42 : nI (4 * t) + (2 : Int32) = nI (4 * t + 2) := by rw [show (2 : Int32) = nI 2 by decide, nI_add]
  have e43 : nI (4 * t) + (3 : Int32) = nI (4 * t + 3) := by rw [show (3 : Int32) = nI 3 by decide, nI_add]
  refine pMet_of (by decide) (Nat.le_of_ble_eq_true rfl) ?_
  refine pw_aload_n dX6_is_0 rfl ?_
  refine pw_getr dX6_is_1 fl_X6_20 rfl rfl (by decide) (by decide) rfl ?_
  refine pw_iconst (v := 4) dX6_is_4 (by decide) ?_
  refine pw_aload_n dX6_is_5 rfl ?_
  refine pw_geti dX6_is_6 fl_X6_80 rfl rfl (by decide) (by decide) ?_
  refine pw_imul dX6_is_9 ?_
  refine pw_iload_n dX6_is_10 rfl ?_
  simp only [upI_a (show (64 : Nat) ≠ 66 by decide), hI, e40, e41, e42, e43]
  refine pw_iast dX6_is_11 rfl (by decide) (by decide) (vp_in_nI (by omega) (by decide)) ?_
  rw [nI_clamp (by omega)]
  refine pw_aload_n dX6_is_12 rfl ?_
  refine pw_getr dX6_is_13 fl_X6_20 rfl rfl (by decide) (by decide) rfl ?_
  refine pw_iconst (v := 4) dX6_is_16 (by decide) ?_
  refine pw_aload_n dX6_is_17 rfl ?_
  refine pw_geti dX6_is_18 fl_X6_80 rfl rfl (by decide) (by decide) ?_
  refine pw_imul dX6_is_21 ?_
  refine pw_iconst (v := 1) dX6_is_22 (by decide) ?_
  refine pw_iadd dX6_is_23 ?_
  refine pw_iload_n dX6_is_24 rfl ?_
  simp only [upI_a (show (64 : Nat) ≠ 66 by decide), hI, e40, e41, e42, e43]
  refine pw_iast dX6_is_25 rfl (by decide) (by decide) (vp_in_nI (by omega) (by decide)) ?_
  rw [nI_clamp (by omega)]
  refine pw_aload_n dX6_is_26 rfl ?_
  refine pw_getr dX6_is_27 fl_X6_20 rfl rfl (by decide) (by decide) rfl ?_
  refine pw_iconst (v := 4) dX6_is_30 (by decide) ?_
  refine pw_aload_n dX6_is_31 rfl ?_
  refine pw_geti dX6_is_32 fl_X6_80 rfl rfl (by decide) (by decide) ?_
  refine pw_imul dX6_is_35 ?_
  refine pw_iconst (v := 2) dX6_is_36 (by decide) ?_
  refine pw_iadd dX6_is_37 ?_
  refine pw_iload_n dX6_is_38 rfl ?_
  simp only [upI_a (show (64 : Nat) ≠ 66 by decide), hI, e40, e41, e42, e43]
  refine pw_iast dX6_is_39 rfl (by decide) (by decide) (vp_in_nI (by omega) (by decide)) ?_
  rw [nI_clamp (by omega)]
  refine pw_aload_n dX6_is_40 rfl ?_
  refine pw_getr dX6_is_41 fl_X6_20 rfl rfl (by decide) (by decide) rfl ?_
  refine pw_iconst (v := 4) dX6_is_44 (by decide) ?_
  refine pw_aload_n dX6_is_45 rfl ?_
  refine pw_geti dX6_is_46 fl_X6_80 rfl rfl (by decide) (by decide) ?_
  refine pw_imul dX6_is_49 ?_
  refine pw_iconst (v := 3) dX6_is_50 (by decide) ?_
  refine pw_iadd dX6_is_51 ?_
  refine pw_iload dX6_is_52 rfl ?_
  simp only [upI_a (show (64 : Nat) ≠ 66 by decide), hI, e40, e41, e42, e43]
  refine pw_iast dX6_is_54 rfl (by decide) (by decide) (vp_in_nI (by omega) (by decide)) ?_
  rw [nI_clamp (by omega)]
  refine pw_aload_n dX6_is_55 rfl ?_
  refine pw_dup dX6_is_56 rfl ?_
  refine pw_geti dX6_is_57 fl_X6_80 rfl rfl (by decide) (by decide) ?_
  refine pw_iconst (v := 1) dX6_is_60 (by decide) ?_
  refine pw_iadd dX6_is_61 ?_
  simp only [upI_a (show (64 : Nat) ≠ 66 by decide), hI, e40, e41, e42, e43]
  refine pw_puti dX6_is_62 fl_X6_80 rfl rfl rfl rfl rfl (by decide) (by decide) ?_
  refine pw_vret dX6_is_65 rfl (by decide) (by decide) ?_
  exact ⟨rfl, rfl, rfl, by rw [isI, nI_succ], rfl⟩
def xs_swaps : List (Int32 × Int32 × Int32 × Int32) := [(0, 2, 1, 0), (9, 2, 0, 6), (0, 3, 0, 0), (3, 2, 3, 5), (5, 0, 0, 0), (12, 0, 0, 0), (0, 2, 0, 0), (8, 2, 0, 6), (13, 0, 0, 0)]
set_option maxRecDepth 100000 in
set_option maxHeartbeats 4000000 in
theorem r_swaps (I : pI) (J : pJ) (h0 : I 64 23 = nI 0) : pMet yX6_swaps (pws yX6_swaps cX6_swaps 1 none) { frames := 1, cells := 0, slots := 0, locals := 24 } [.ref 64] 84 I J pRs (pOv (fun I' J' => I' = isL xs_swaps 0 I ∧ J' = J)) := by
  refine pMet_of (by decide) (Nat.le_of_ble_eq_true rfl) ?_
  refine pw_aload_n dX6_swaps_0 rfl ?_
  refine pw_iconst (v := 0) dX6_swaps_1 (by decide) ?_
  refine pw_iconst (v := 2) dX6_swaps_2 (by decide) ?_
  refine pw_iconst (v := 1) dX6_swaps_3 (by decide) ?_
  refine pw_iconst (v := 0) dX6_swaps_4 (by decide) ?_
  refine pw_cVv (ci := 6) (y := yX6_is) (cc := cX6_is) (nL := 5) (ret := none) (rm := { frames := 0, cells := 0, slots := 0, locals := 0 }) dX6_swaps_5 (r_is (t := 0) _ _ _ _ _ _ (by decide) (h0)) w_X6_83 rfl (by decide) rfl ⟨by decide, by decide⟩ (by decide) (by decide) rfl (Nat.le_of_ble_eq_true rfl) (fun I5 J5 q5 => ?_)
  obtain ⟨rfl, rfl⟩ := rvv q5
  refine pw_aload_n dX6_swaps_8 rfl ?_
  refine pw_bipush (v := 9) dX6_swaps_9 (by decide) ?_
  refine pw_iconst (v := 2) dX6_swaps_11 (by decide) ?_
  refine pw_iconst (v := 0) dX6_swaps_12 (by decide) ?_
  refine pw_bipush (v := 6) dX6_swaps_13 (by decide) ?_
  refine pw_cVv (ci := 6) (y := yX6_is) (cc := cX6_is) (nL := 5) (ret := none) (rm := { frames := 0, cells := 0, slots := 0, locals := 0 }) dX6_swaps_15 (r_is (t := 1) _ _ _ _ _ _ (by decide) (isI_at)) w_X6_83 rfl (by decide) rfl ⟨by decide, by decide⟩ (by decide) (by decide) rfl (Nat.le_of_ble_eq_true rfl) (fun I15 J15 q15 => ?_)
  obtain ⟨rfl, rfl⟩ := rvv q15
  refine pw_aload_n dX6_swaps_18 rfl ?_
  refine pw_iconst (v := 0) dX6_swaps_19 (by decide) ?_
  refine pw_iconst (v := 3) dX6_swaps_20 (by decide) ?_
  refine pw_iconst (v := 0) dX6_swaps_21 (by decide) ?_
  refine pw_iconst (v := 0) dX6_swaps_22 (by decide) ?_
  refine pw_cVv (ci := 6) (y := yX6_is) (cc := cX6_is) (nL := 5) (ret := none) (rm := { frames := 0, cells := 0, slots := 0, locals := 0 }) dX6_swaps_23 (r_is (t := 2) _ _ _ _ _ _ (by decide) (isI_at)) w_X6_83 rfl (by decide) rfl ⟨by decide, by decide⟩ (by decide) (by decide) rfl (Nat.le_of_ble_eq_true rfl) (fun I23 J23 q23 => ?_)
  obtain ⟨rfl, rfl⟩ := rvv q23
  refine pw_aload_n dX6_swaps_26 rfl ?_
  refine pw_iconst (v := 3) dX6_swaps_27 (by decide) ?_
  refine pw_iconst (v := 2) dX6_swaps_28 (by decide) ?_
  refine pw_iconst (v := 3) dX6_swaps_29 (by decide) ?_
  refine pw_iconst (v := 5) dX6_swaps_30 (by decide) ?_
  refine pw_cVv (ci := 6) (y := yX6_is) (cc := cX6_is) (nL := 5) (ret := none) (rm := { frames := 0, cells := 0, slots := 0, locals := 0 }) dX6_swaps_31 (r_is (t := 3) _ _ _ _ _ _ (by decide) (isI_at)) w_X6_83 rfl (by decide) rfl ⟨by decide, by decide⟩ (by decide) (by decide) rfl (Nat.le_of_ble_eq_true rfl) (fun I31 J31 q31 => ?_)
  obtain ⟨rfl, rfl⟩ := rvv q31
  refine pw_aload_n dX6_swaps_34 rfl ?_
  refine pw_iconst (v := 5) dX6_swaps_35 (by decide) ?_
  refine pw_iconst (v := 0) dX6_swaps_36 (by decide) ?_
  refine pw_iconst (v := 0) dX6_swaps_37 (by decide) ?_
  refine pw_iconst (v := 0) dX6_swaps_38 (by decide) ?_
  refine pw_cVv (ci := 6) (y := yX6_is) (cc := cX6_is) (nL := 5) (ret := none) (rm := { frames := 0, cells := 0, slots := 0, locals := 0 }) dX6_swaps_39 (r_is (t := 4) _ _ _ _ _ _ (by decide) (isI_at)) w_X6_83 rfl (by decide) rfl ⟨by decide, by decide⟩ (by decide) (by decide) rfl (Nat.le_of_ble_eq_true rfl) (fun I39 J39 q39 => ?_)
  obtain ⟨rfl, rfl⟩ := rvv q39
  refine pw_aload_n dX6_swaps_42 rfl ?_
  refine pw_bipush (v := 12) dX6_swaps_43 (by decide) ?_
  refine pw_iconst (v := 0) dX6_swaps_45 (by decide) ?_
  refine pw_iconst (v := 0) dX6_swaps_46 (by decide) ?_
  refine pw_iconst (v := 0) dX6_swaps_47 (by decide) ?_
  refine pw_cVv (ci := 6) (y := yX6_is) (cc := cX6_is) (nL := 5) (ret := none) (rm := { frames := 0, cells := 0, slots := 0, locals := 0 }) dX6_swaps_48 (r_is (t := 5) _ _ _ _ _ _ (by decide) (isI_at)) w_X6_83 rfl (by decide) rfl ⟨by decide, by decide⟩ (by decide) (by decide) rfl (Nat.le_of_ble_eq_true rfl) (fun I48 J48 q48 => ?_)
  obtain ⟨rfl, rfl⟩ := rvv q48
  refine pw_aload_n dX6_swaps_51 rfl ?_
  refine pw_iconst (v := 0) dX6_swaps_52 (by decide) ?_
  refine pw_iconst (v := 2) dX6_swaps_53 (by decide) ?_
  refine pw_iconst (v := 0) dX6_swaps_54 (by decide) ?_
  refine pw_iconst (v := 0) dX6_swaps_55 (by decide) ?_
  refine pw_cVv (ci := 6) (y := yX6_is) (cc := cX6_is) (nL := 5) (ret := none) (rm := { frames := 0, cells := 0, slots := 0, locals := 0 }) dX6_swaps_56 (r_is (t := 6) _ _ _ _ _ _ (by decide) (isI_at)) w_X6_83 rfl (by decide) rfl ⟨by decide, by decide⟩ (by decide) (by decide) rfl (Nat.le_of_ble_eq_true rfl) (fun I56 J56 q56 => ?_)
  obtain ⟨rfl, rfl⟩ := rvv q56
  refine pw_aload_n dX6_swaps_59 rfl ?_
  refine pw_bipush (v := 8) dX6_swaps_60 (by decide) ?_
  refine pw_iconst (v := 2) dX6_swaps_62 (by decide) ?_
  refine pw_iconst (v := 0) dX6_swaps_63 (by decide) ?_
  refine pw_bipush (v := 6) dX6_swaps_64 (by decide) ?_
  refine pw_cVv (ci := 6) (y := yX6_is) (cc := cX6_is) (nL := 5) (ret := none) (rm := { frames := 0, cells := 0, slots := 0, locals := 0 }) dX6_swaps_66 (r_is (t := 7) _ _ _ _ _ _ (by decide) (isI_at)) w_X6_83 rfl (by decide) rfl ⟨by decide, by decide⟩ (by decide) (by decide) rfl (Nat.le_of_ble_eq_true rfl) (fun I66 J66 q66 => ?_)
  obtain ⟨rfl, rfl⟩ := rvv q66
  refine pw_aload_n dX6_swaps_69 rfl ?_
  refine pw_bipush (v := 13) dX6_swaps_70 (by decide) ?_
  refine pw_iconst (v := 0) dX6_swaps_72 (by decide) ?_
  refine pw_iconst (v := 0) dX6_swaps_73 (by decide) ?_
  refine pw_iconst (v := 0) dX6_swaps_74 (by decide) ?_
  refine pw_cVv (ci := 6) (y := yX6_is) (cc := cX6_is) (nL := 5) (ret := none) (rm := { frames := 0, cells := 0, slots := 0, locals := 0 }) dX6_swaps_75 (r_is (t := 8) _ _ _ _ _ _ (by decide) (isI_at)) w_X6_83 rfl (by decide) rfl ⟨by decide, by decide⟩ (by decide) (by decide) rfl (Nat.le_of_ble_eq_true rfl) (fun I75 J75 q75 => ?_)
  obtain ⟨rfl, rfl⟩ := rvv q75
  refine pw_vret dX6_swaps_78 rfl (by decide) (by decide) ?_
  exact ⟨rfl, rfl, rfl, rfl, rfl⟩
def xs_tickets : List (Int32 × Int32 × Int32 × Int32) := [(10, 2, 0, 1), (6, 0, 0, 0), (7, 3, 1, 6), (3, 2, 3, 5), (5, 0, 0, 2), (12, 0, 0, 0), (10, 3, 1, 1), (13, 0, 0, 0)]
set_option maxRecDepth 100000 in
set_option maxHeartbeats 4000000 in
theorem r_tickets (I : pI) (J : pJ) (h0 : I 64 23 = nI 0) : pMet yX6_tickets (pws yX6_tickets cX6_tickets 1 none) { frames := 1, cells := 0, slots := 0, locals := 24 } [.ref 64] 84 I J pRs (pOv (fun I' J' => I' = isL xs_tickets 0 I ∧ J' = J)) := by
  refine pMet_of (by decide) (Nat.le_of_ble_eq_true rfl) ?_
  refine pw_aload_n dX6_tickets_0 rfl ?_
  refine pw_bipush (v := 10) dX6_tickets_1 (by decide) ?_
  refine pw_iconst (v := 2) dX6_tickets_3 (by decide) ?_
  refine pw_iconst (v := 0) dX6_tickets_4 (by decide) ?_
  refine pw_iconst (v := 1) dX6_tickets_5 (by decide) ?_
  refine pw_cVv (ci := 6) (y := yX6_is) (cc := cX6_is) (nL := 5) (ret := none) (rm := { frames := 0, cells := 0, slots := 0, locals := 0 }) dX6_tickets_6 (r_is (t := 0) _ _ _ _ _ _ (by decide) (h0)) w_X6_83 rfl (by decide) rfl ⟨by decide, by decide⟩ (by decide) (by decide) rfl (Nat.le_of_ble_eq_true rfl) (fun I6 J6 q6 => ?_)
  obtain ⟨rfl, rfl⟩ := rvv q6
  refine pw_aload_n dX6_tickets_9 rfl ?_
  refine pw_bipush (v := 6) dX6_tickets_10 (by decide) ?_
  refine pw_iconst (v := 0) dX6_tickets_12 (by decide) ?_
  refine pw_iconst (v := 0) dX6_tickets_13 (by decide) ?_
  refine pw_iconst (v := 0) dX6_tickets_14 (by decide) ?_
  refine pw_cVv (ci := 6) (y := yX6_is) (cc := cX6_is) (nL := 5) (ret := none) (rm := { frames := 0, cells := 0, slots := 0, locals := 0 }) dX6_tickets_15 (r_is (t := 1) _ _ _ _ _ _ (by decide) (isI_at)) w_X6_83 rfl (by decide) rfl ⟨by decide, by decide⟩ (by decide) (by decide) rfl (Nat.le_of_ble_eq_true rfl) (fun I15 J15 q15 => ?_)
  obtain ⟨rfl, rfl⟩ := rvv q15
  refine pw_aload_n dX6_tickets_18 rfl ?_
  refine pw_bipush (v := 7) dX6_tickets_19 (by decide) ?_
  refine pw_iconst (v := 3) dX6_tickets_21 (by decide) ?_
  refine pw_iconst (v := 1) dX6_tickets_22 (by decide) ?_
  refine pw_bipush (v := 6) dX6_tickets_23 (by decide) ?_
  refine pw_cVv (ci := 6) (y := yX6_is) (cc := cX6_is) (nL := 5) (ret := none) (rm := { frames := 0, cells := 0, slots := 0, locals := 0 }) dX6_tickets_25 (r_is (t := 2) _ _ _ _ _ _ (by decide) (isI_at)) w_X6_83 rfl (by decide) rfl ⟨by decide, by decide⟩ (by decide) (by decide) rfl (Nat.le_of_ble_eq_true rfl) (fun I25 J25 q25 => ?_)
  obtain ⟨rfl, rfl⟩ := rvv q25
  refine pw_aload_n dX6_tickets_28 rfl ?_
  refine pw_iconst (v := 3) dX6_tickets_29 (by decide) ?_
  refine pw_iconst (v := 2) dX6_tickets_30 (by decide) ?_
  refine pw_iconst (v := 3) dX6_tickets_31 (by decide) ?_
  refine pw_iconst (v := 5) dX6_tickets_32 (by decide) ?_
  refine pw_cVv (ci := 6) (y := yX6_is) (cc := cX6_is) (nL := 5) (ret := none) (rm := { frames := 0, cells := 0, slots := 0, locals := 0 }) dX6_tickets_33 (r_is (t := 3) _ _ _ _ _ _ (by decide) (isI_at)) w_X6_83 rfl (by decide) rfl ⟨by decide, by decide⟩ (by decide) (by decide) rfl (Nat.le_of_ble_eq_true rfl) (fun I33 J33 q33 => ?_)
  obtain ⟨rfl, rfl⟩ := rvv q33
  refine pw_aload_n dX6_tickets_36 rfl ?_
  refine pw_iconst (v := 5) dX6_tickets_37 (by decide) ?_
  refine pw_iconst (v := 0) dX6_tickets_38 (by decide) ?_
  refine pw_iconst (v := 0) dX6_tickets_39 (by decide) ?_
  refine pw_iconst (v := 2) dX6_tickets_40 (by decide) ?_
  refine pw_cVv (ci := 6) (y := yX6_is) (cc := cX6_is) (nL := 5) (ret := none) (rm := { frames := 0, cells := 0, slots := 0, locals := 0 }) dX6_tickets_41 (r_is (t := 4) _ _ _ _ _ _ (by decide) (isI_at)) w_X6_83 rfl (by decide) rfl ⟨by decide, by decide⟩ (by decide) (by decide) rfl (Nat.le_of_ble_eq_true rfl) (fun I41 J41 q41 => ?_)
  obtain ⟨rfl, rfl⟩ := rvv q41
  refine pw_aload_n dX6_tickets_44 rfl ?_
  refine pw_bipush (v := 12) dX6_tickets_45 (by decide) ?_
  refine pw_iconst (v := 0) dX6_tickets_47 (by decide) ?_
  refine pw_iconst (v := 0) dX6_tickets_48 (by decide) ?_
  refine pw_iconst (v := 0) dX6_tickets_49 (by decide) ?_
  refine pw_cVv (ci := 6) (y := yX6_is) (cc := cX6_is) (nL := 5) (ret := none) (rm := { frames := 0, cells := 0, slots := 0, locals := 0 }) dX6_tickets_50 (r_is (t := 5) _ _ _ _ _ _ (by decide) (isI_at)) w_X6_83 rfl (by decide) rfl ⟨by decide, by decide⟩ (by decide) (by decide) rfl (Nat.le_of_ble_eq_true rfl) (fun I50 J50 q50 => ?_)
  obtain ⟨rfl, rfl⟩ := rvv q50
  refine pw_aload_n dX6_tickets_53 rfl ?_
  refine pw_bipush (v := 10) dX6_tickets_54 (by decide) ?_
  refine pw_iconst (v := 3) dX6_tickets_56 (by decide) ?_
  refine pw_iconst (v := 1) dX6_tickets_57 (by decide) ?_
  refine pw_iconst (v := 1) dX6_tickets_58 (by decide) ?_
  refine pw_cVv (ci := 6) (y := yX6_is) (cc := cX6_is) (nL := 5) (ret := none) (rm := { frames := 0, cells := 0, slots := 0, locals := 0 }) dX6_tickets_59 (r_is (t := 6) _ _ _ _ _ _ (by decide) (isI_at)) w_X6_83 rfl (by decide) rfl ⟨by decide, by decide⟩ (by decide) (by decide) rfl (Nat.le_of_ble_eq_true rfl) (fun I59 J59 q59 => ?_)
  obtain ⟨rfl, rfl⟩ := rvv q59
  refine pw_aload_n dX6_tickets_62 rfl ?_
  refine pw_bipush (v := 13) dX6_tickets_63 (by decide) ?_
  refine pw_iconst (v := 0) dX6_tickets_65 (by decide) ?_
  refine pw_iconst (v := 0) dX6_tickets_66 (by decide) ?_
  refine pw_iconst (v := 0) dX6_tickets_67 (by decide) ?_
  refine pw_cVv (ci := 6) (y := yX6_is) (cc := cX6_is) (nL := 5) (ret := none) (rm := { frames := 0, cells := 0, slots := 0, locals := 0 }) dX6_tickets_68 (r_is (t := 7) _ _ _ _ _ _ (by decide) (isI_at)) w_X6_83 rfl (by decide) rfl ⟨by decide, by decide⟩ (by decide) (by decide) rfl (Nat.le_of_ble_eq_true rfl) (fun I68 J68 q68 => ?_)
  obtain ⟨rfl, rfl⟩ := rvv q68
  refine pw_vret dX6_tickets_71 rfl (by decide) (by decide) ?_
  exact ⟨rfl, rfl, rfl, rfl, rfl⟩
def xs_two : List (Int32 × Int32 × Int32 × Int32) := [(0, 1, 1, 0), (0, 3, 0, 0), (3, 0, 3, 4), (0, 1, 0, 0), (0, 2, 1, 0), (8, 2, 0, 0), (8, 1, 2, 6), (6, 0, 0, 0), (7, 2, 0, 1), (0, 3, 0, 0), (3, 2, 3, 14), (7, 2, 2, 6), (3, 2, 0, 14), (5, 0, 0, 8), (12, 0, 0, 0), (0, 2, 0, 0), (8, 2, 0, 0), (13, 0, 0, 0)]
set_option maxRecDepth 100000 in
set_option maxHeartbeats 4000000 in
theorem r_two (I : pI) (J : pJ) (h0 : I 64 23 = nI 0) : pMet yX6_two (pws yX6_two cX6_two 1 none) { frames := 1, cells := 0, slots := 0, locals := 24 } [.ref 64] 84 I J pRs (pOv (fun I' J' => I' = isL xs_two 0 I ∧ J' = J)) := by
  refine pMet_of (by decide) (Nat.le_of_ble_eq_true rfl) ?_
  refine pw_aload_n dX6_two_0 rfl ?_
  refine pw_iconst (v := 0) dX6_two_1 (by decide) ?_
  refine pw_iconst (v := 1) dX6_two_2 (by decide) ?_
  refine pw_iconst (v := 1) dX6_two_3 (by decide) ?_
  refine pw_iconst (v := 0) dX6_two_4 (by decide) ?_
  refine pw_cVv (ci := 6) (y := yX6_is) (cc := cX6_is) (nL := 5) (ret := none) (rm := { frames := 0, cells := 0, slots := 0, locals := 0 }) dX6_two_5 (r_is (t := 0) _ _ _ _ _ _ (by decide) (h0)) w_X6_83 rfl (by decide) rfl ⟨by decide, by decide⟩ (by decide) (by decide) rfl (Nat.le_of_ble_eq_true rfl) (fun I5 J5 q5 => ?_)
  obtain ⟨rfl, rfl⟩ := rvv q5
  refine pw_aload_n dX6_two_8 rfl ?_
  refine pw_iconst (v := 0) dX6_two_9 (by decide) ?_
  refine pw_iconst (v := 3) dX6_two_10 (by decide) ?_
  refine pw_iconst (v := 0) dX6_two_11 (by decide) ?_
  refine pw_iconst (v := 0) dX6_two_12 (by decide) ?_
  refine pw_cVv (ci := 6) (y := yX6_is) (cc := cX6_is) (nL := 5) (ret := none) (rm := { frames := 0, cells := 0, slots := 0, locals := 0 }) dX6_two_13 (r_is (t := 1) _ _ _ _ _ _ (by decide) (isI_at)) w_X6_83 rfl (by decide) rfl ⟨by decide, by decide⟩ (by decide) (by decide) rfl (Nat.le_of_ble_eq_true rfl) (fun I13 J13 q13 => ?_)
  obtain ⟨rfl, rfl⟩ := rvv q13
  refine pw_aload_n dX6_two_16 rfl ?_
  refine pw_iconst (v := 3) dX6_two_17 (by decide) ?_
  refine pw_iconst (v := 0) dX6_two_18 (by decide) ?_
  refine pw_iconst (v := 3) dX6_two_19 (by decide) ?_
  refine pw_iconst (v := 4) dX6_two_20 (by decide) ?_
  refine pw_cVv (ci := 6) (y := yX6_is) (cc := cX6_is) (nL := 5) (ret := none) (rm := { frames := 0, cells := 0, slots := 0, locals := 0 }) dX6_two_21 (r_is (t := 2) _ _ _ _ _ _ (by decide) (isI_at)) w_X6_83 rfl (by decide) rfl ⟨by decide, by decide⟩ (by decide) (by decide) rfl (Nat.le_of_ble_eq_true rfl) (fun I21 J21 q21 => ?_)
  obtain ⟨rfl, rfl⟩ := rvv q21
  refine pw_aload_n dX6_two_24 rfl ?_
  refine pw_iconst (v := 0) dX6_two_25 (by decide) ?_
  refine pw_iconst (v := 1) dX6_two_26 (by decide) ?_
  refine pw_iconst (v := 0) dX6_two_27 (by decide) ?_
  refine pw_iconst (v := 0) dX6_two_28 (by decide) ?_
  refine pw_cVv (ci := 6) (y := yX6_is) (cc := cX6_is) (nL := 5) (ret := none) (rm := { frames := 0, cells := 0, slots := 0, locals := 0 }) dX6_two_29 (r_is (t := 3) _ _ _ _ _ _ (by decide) (isI_at)) w_X6_83 rfl (by decide) rfl ⟨by decide, by decide⟩ (by decide) (by decide) rfl (Nat.le_of_ble_eq_true rfl) (fun I29 J29 q29 => ?_)
  obtain ⟨rfl, rfl⟩ := rvv q29
  refine pw_aload_n dX6_two_32 rfl ?_
  refine pw_iconst (v := 0) dX6_two_33 (by decide) ?_
  refine pw_iconst (v := 2) dX6_two_34 (by decide) ?_
  refine pw_iconst (v := 1) dX6_two_35 (by decide) ?_
  refine pw_iconst (v := 0) dX6_two_36 (by decide) ?_
  refine pw_cVv (ci := 6) (y := yX6_is) (cc := cX6_is) (nL := 5) (ret := none) (rm := { frames := 0, cells := 0, slots := 0, locals := 0 }) dX6_two_37 (r_is (t := 4) _ _ _ _ _ _ (by decide) (isI_at)) w_X6_83 rfl (by decide) rfl ⟨by decide, by decide⟩ (by decide) (by decide) rfl (Nat.le_of_ble_eq_true rfl) (fun I37 J37 q37 => ?_)
  obtain ⟨rfl, rfl⟩ := rvv q37
  refine pw_aload_n dX6_two_40 rfl ?_
  refine pw_bipush (v := 8) dX6_two_41 (by decide) ?_
  refine pw_iconst (v := 2) dX6_two_43 (by decide) ?_
  refine pw_iconst (v := 0) dX6_two_44 (by decide) ?_
  refine pw_iconst (v := 0) dX6_two_45 (by decide) ?_
  refine pw_cVv (ci := 6) (y := yX6_is) (cc := cX6_is) (nL := 5) (ret := none) (rm := { frames := 0, cells := 0, slots := 0, locals := 0 }) dX6_two_46 (r_is (t := 5) _ _ _ _ _ _ (by decide) (isI_at)) w_X6_83 rfl (by decide) rfl ⟨by decide, by decide⟩ (by decide) (by decide) rfl (Nat.le_of_ble_eq_true rfl) (fun I46 J46 q46 => ?_)
  obtain ⟨rfl, rfl⟩ := rvv q46
  refine pw_aload_n dX6_two_49 rfl ?_
  refine pw_bipush (v := 8) dX6_two_50 (by decide) ?_
  refine pw_iconst (v := 1) dX6_two_52 (by decide) ?_
  refine pw_iconst (v := 2) dX6_two_53 (by decide) ?_
  refine pw_bipush (v := 6) dX6_two_54 (by decide) ?_
  refine pw_cVv (ci := 6) (y := yX6_is) (cc := cX6_is) (nL := 5) (ret := none) (rm := { frames := 0, cells := 0, slots := 0, locals := 0 }) dX6_two_56 (r_is (t := 6) _ _ _ _ _ _ (by decide) (isI_at)) w_X6_83 rfl (by decide) rfl ⟨by decide, by decide⟩ (by decide) (by decide) rfl (Nat.le_of_ble_eq_true rfl) (fun I56 J56 q56 => ?_)
  obtain ⟨rfl, rfl⟩ := rvv q56
  refine pw_aload_n dX6_two_59 rfl ?_
  refine pw_bipush (v := 6) dX6_two_60 (by decide) ?_
  refine pw_iconst (v := 0) dX6_two_62 (by decide) ?_
  refine pw_iconst (v := 0) dX6_two_63 (by decide) ?_
  refine pw_iconst (v := 0) dX6_two_64 (by decide) ?_
  refine pw_cVv (ci := 6) (y := yX6_is) (cc := cX6_is) (nL := 5) (ret := none) (rm := { frames := 0, cells := 0, slots := 0, locals := 0 }) dX6_two_65 (r_is (t := 7) _ _ _ _ _ _ (by decide) (isI_at)) w_X6_83 rfl (by decide) rfl ⟨by decide, by decide⟩ (by decide) (by decide) rfl (Nat.le_of_ble_eq_true rfl) (fun I65 J65 q65 => ?_)
  obtain ⟨rfl, rfl⟩ := rvv q65
  refine pw_aload_n dX6_two_68 rfl ?_
  refine pw_bipush (v := 7) dX6_two_69 (by decide) ?_
  refine pw_iconst (v := 2) dX6_two_71 (by decide) ?_
  refine pw_iconst (v := 0) dX6_two_72 (by decide) ?_
  refine pw_iconst (v := 1) dX6_two_73 (by decide) ?_
  refine pw_cVv (ci := 6) (y := yX6_is) (cc := cX6_is) (nL := 5) (ret := none) (rm := { frames := 0, cells := 0, slots := 0, locals := 0 }) dX6_two_74 (r_is (t := 8) _ _ _ _ _ _ (by decide) (isI_at)) w_X6_83 rfl (by decide) rfl ⟨by decide, by decide⟩ (by decide) (by decide) rfl (Nat.le_of_ble_eq_true rfl) (fun I74 J74 q74 => ?_)
  obtain ⟨rfl, rfl⟩ := rvv q74
  refine pw_aload_n dX6_two_77 rfl ?_
  refine pw_iconst (v := 0) dX6_two_78 (by decide) ?_
  refine pw_iconst (v := 3) dX6_two_79 (by decide) ?_
  refine pw_iconst (v := 0) dX6_two_80 (by decide) ?_
  refine pw_iconst (v := 0) dX6_two_81 (by decide) ?_
  refine pw_cVv (ci := 6) (y := yX6_is) (cc := cX6_is) (nL := 5) (ret := none) (rm := { frames := 0, cells := 0, slots := 0, locals := 0 }) dX6_two_82 (r_is (t := 9) _ _ _ _ _ _ (by decide) (isI_at)) w_X6_83 rfl (by decide) rfl ⟨by decide, by decide⟩ (by decide) (by decide) rfl (Nat.le_of_ble_eq_true rfl) (fun I82 J82 q82 => ?_)
  obtain ⟨rfl, rfl⟩ := rvv q82
  refine pw_aload_n dX6_two_85 rfl ?_
  refine pw_iconst (v := 3) dX6_two_86 (by decide) ?_
  refine pw_iconst (v := 2) dX6_two_87 (by decide) ?_
  refine pw_iconst (v := 3) dX6_two_88 (by decide) ?_
  refine pw_bipush (v := 14) dX6_two_89 (by decide) ?_
  refine pw_cVv (ci := 6) (y := yX6_is) (cc := cX6_is) (nL := 5) (ret := none) (rm := { frames := 0, cells := 0, slots := 0, locals := 0 }) dX6_two_91 (r_is (t := 10) _ _ _ _ _ _ (by decide) (isI_at)) w_X6_83 rfl (by decide) rfl ⟨by decide, by decide⟩ (by decide) (by decide) rfl (Nat.le_of_ble_eq_true rfl) (fun I91 J91 q91 => ?_)
  obtain ⟨rfl, rfl⟩ := rvv q91
  refine pw_aload_n dX6_two_94 rfl ?_
  refine pw_bipush (v := 7) dX6_two_95 (by decide) ?_
  refine pw_iconst (v := 2) dX6_two_97 (by decide) ?_
  refine pw_iconst (v := 2) dX6_two_98 (by decide) ?_
  refine pw_bipush (v := 6) dX6_two_99 (by decide) ?_
  refine pw_cVv (ci := 6) (y := yX6_is) (cc := cX6_is) (nL := 5) (ret := none) (rm := { frames := 0, cells := 0, slots := 0, locals := 0 }) dX6_two_101 (r_is (t := 11) _ _ _ _ _ _ (by decide) (isI_at)) w_X6_83 rfl (by decide) rfl ⟨by decide, by decide⟩ (by decide) (by decide) rfl (Nat.le_of_ble_eq_true rfl) (fun I101 J101 q101 => ?_)
  obtain ⟨rfl, rfl⟩ := rvv q101
  refine pw_aload_n dX6_two_104 rfl ?_
  refine pw_iconst (v := 3) dX6_two_105 (by decide) ?_
  refine pw_iconst (v := 2) dX6_two_106 (by decide) ?_
  refine pw_iconst (v := 0) dX6_two_107 (by decide) ?_
  refine pw_bipush (v := 14) dX6_two_108 (by decide) ?_
  refine pw_cVv (ci := 6) (y := yX6_is) (cc := cX6_is) (nL := 5) (ret := none) (rm := { frames := 0, cells := 0, slots := 0, locals := 0 }) dX6_two_110 (r_is (t := 12) _ _ _ _ _ _ (by decide) (isI_at)) w_X6_83 rfl (by decide) rfl ⟨by decide, by decide⟩ (by decide) (by decide) rfl (Nat.le_of_ble_eq_true rfl) (fun I110 J110 q110 => ?_)
  obtain ⟨rfl, rfl⟩ := rvv q110
  refine pw_aload_n dX6_two_113 rfl ?_
  refine pw_iconst (v := 5) dX6_two_114 (by decide) ?_
  refine pw_iconst (v := 0) dX6_two_115 (by decide) ?_
  refine pw_iconst (v := 0) dX6_two_116 (by decide) ?_
  refine pw_bipush (v := 8) dX6_two_117 (by decide) ?_
  refine pw_cVv (ci := 6) (y := yX6_is) (cc := cX6_is) (nL := 5) (ret := none) (rm := { frames := 0, cells := 0, slots := 0, locals := 0 }) dX6_two_119 (r_is (t := 13) _ _ _ _ _ _ (by decide) (isI_at)) w_X6_83 rfl (by decide) rfl ⟨by decide, by decide⟩ (by decide) (by decide) rfl (Nat.le_of_ble_eq_true rfl) (fun I119 J119 q119 => ?_)
  obtain ⟨rfl, rfl⟩ := rvv q119
  refine pw_aload_n dX6_two_122 rfl ?_
  refine pw_bipush (v := 12) dX6_two_123 (by decide) ?_
  refine pw_iconst (v := 0) dX6_two_125 (by decide) ?_
  refine pw_iconst (v := 0) dX6_two_126 (by decide) ?_
  refine pw_iconst (v := 0) dX6_two_127 (by decide) ?_
  refine pw_cVv (ci := 6) (y := yX6_is) (cc := cX6_is) (nL := 5) (ret := none) (rm := { frames := 0, cells := 0, slots := 0, locals := 0 }) dX6_two_128 (r_is (t := 14) _ _ _ _ _ _ (by decide) (isI_at)) w_X6_83 rfl (by decide) rfl ⟨by decide, by decide⟩ (by decide) (by decide) rfl (Nat.le_of_ble_eq_true rfl) (fun I128 J128 q128 => ?_)
  obtain ⟨rfl, rfl⟩ := rvv q128
  refine pw_aload_n dX6_two_131 rfl ?_
  refine pw_iconst (v := 0) dX6_two_132 (by decide) ?_
  refine pw_iconst (v := 2) dX6_two_133 (by decide) ?_
  refine pw_iconst (v := 0) dX6_two_134 (by decide) ?_
  refine pw_iconst (v := 0) dX6_two_135 (by decide) ?_
  refine pw_cVv (ci := 6) (y := yX6_is) (cc := cX6_is) (nL := 5) (ret := none) (rm := { frames := 0, cells := 0, slots := 0, locals := 0 }) dX6_two_136 (r_is (t := 15) _ _ _ _ _ _ (by decide) (isI_at)) w_X6_83 rfl (by decide) rfl ⟨by decide, by decide⟩ (by decide) (by decide) rfl (Nat.le_of_ble_eq_true rfl) (fun I136 J136 q136 => ?_)
  obtain ⟨rfl, rfl⟩ := rvv q136
  refine pw_aload_n dX6_two_139 rfl ?_
  refine pw_bipush (v := 8) dX6_two_140 (by decide) ?_
  refine pw_iconst (v := 2) dX6_two_142 (by decide) ?_
  refine pw_iconst (v := 0) dX6_two_143 (by decide) ?_
  refine pw_iconst (v := 0) dX6_two_144 (by decide) ?_
  refine pw_cVv (ci := 6) (y := yX6_is) (cc := cX6_is) (nL := 5) (ret := none) (rm := { frames := 0, cells := 0, slots := 0, locals := 0 }) dX6_two_145 (r_is (t := 16) _ _ _ _ _ _ (by decide) (isI_at)) w_X6_83 rfl (by decide) rfl ⟨by decide, by decide⟩ (by decide) (by decide) rfl (Nat.le_of_ble_eq_true rfl) (fun I145 J145 q145 => ?_)
  obtain ⟨rfl, rfl⟩ := rvv q145
  refine pw_aload_n dX6_two_148 rfl ?_
  refine pw_bipush (v := 13) dX6_two_149 (by decide) ?_
  refine pw_iconst (v := 0) dX6_two_151 (by decide) ?_
  refine pw_iconst (v := 0) dX6_two_152 (by decide) ?_
  refine pw_iconst (v := 0) dX6_two_153 (by decide) ?_
  refine pw_cVv (ci := 6) (y := yX6_is) (cc := cX6_is) (nL := 5) (ret := none) (rm := { frames := 0, cells := 0, slots := 0, locals := 0 }) dX6_two_154 (r_is (t := 17) _ _ _ _ _ _ (by decide) (isI_at)) w_X6_83 rfl (by decide) rfl ⟨by decide, by decide⟩ (by decide) (by decide) rfl (Nat.le_of_ble_eq_true rfl) (fun I154 J154 q154 => ?_)
  obtain ⟨rfl, rfl⟩ := rvv q154
  refine pw_vret dX6_two_157 rfl (by decide) (by decide) ?_
  exact ⟨rfl, rfl, rfl, rfl, rfl⟩
def xs_bakery : List (Int32 × Int32 × Int32 × Int32) := [(0, 2, 1, 0), (8, 2, 0, 0), (0, 3, 0, 0), (0, 4, 0, 0), (3, 4, 1, 10), (7, 5, 3, 4), (4, 5, 3, 8), (2, 3, 5, 0), (1, 4, 1, 0), (5, 0, 0, 4), (1, 3, 1, 0), (8, 3, 3, 0), (0, 2, 0, 0), (8, 2, 0, 0), (6, 0, 0, 0), (0, 4, 0, 0), (3, 4, 1, 30), (3, 4, 0, 28), (7, 5, 0, 4), (3, 5, 2, 21), (5, 0, 0, 18), (7, 5, 3, 4), (3, 5, 2, 28), (4, 5, 3, 21), (3, 5, 3, 26), (5, 0, 0, 28), (4, 4, 0, 21), (5, 0, 0, 28), (1, 4, 1, 0), (5, 0, 0, 16), (12, 0, 0, 0), (8, 2, 3, 0), (13, 0, 0, 0)]
set_option maxRecDepth 100000 in
set_option maxHeartbeats 4000000 in
theorem r_bakery (I : pI) (J : pJ) (h0 : I 64 23 = nI 0) : pMet yX6_bakery (pws yX6_bakery cX6_bakery 1 none) { frames := 1, cells := 0, slots := 0, locals := 24 } [.ref 64] 84 I J pRs (pOv (fun I' J' => I' = isL xs_bakery 0 I ∧ J' = J)) := by
  refine pMet_of (by decide) (Nat.le_of_ble_eq_true rfl) ?_
  refine pw_aload_n dX6_bakery_0 rfl ?_
  refine pw_iconst (v := 0) dX6_bakery_1 (by decide) ?_
  refine pw_iconst (v := 2) dX6_bakery_2 (by decide) ?_
  refine pw_iconst (v := 1) dX6_bakery_3 (by decide) ?_
  refine pw_iconst (v := 0) dX6_bakery_4 (by decide) ?_
  refine pw_cVv (ci := 6) (y := yX6_is) (cc := cX6_is) (nL := 5) (ret := none) (rm := { frames := 0, cells := 0, slots := 0, locals := 0 }) dX6_bakery_5 (r_is (t := 0) _ _ _ _ _ _ (by decide) (h0)) w_X6_83 rfl (by decide) rfl ⟨by decide, by decide⟩ (by decide) (by decide) rfl (Nat.le_of_ble_eq_true rfl) (fun I5 J5 q5 => ?_)
  obtain ⟨rfl, rfl⟩ := rvv q5
  refine pw_aload_n dX6_bakery_8 rfl ?_
  refine pw_bipush (v := 8) dX6_bakery_9 (by decide) ?_
  refine pw_iconst (v := 2) dX6_bakery_11 (by decide) ?_
  refine pw_iconst (v := 0) dX6_bakery_12 (by decide) ?_
  refine pw_iconst (v := 0) dX6_bakery_13 (by decide) ?_
  refine pw_cVv (ci := 6) (y := yX6_is) (cc := cX6_is) (nL := 5) (ret := none) (rm := { frames := 0, cells := 0, slots := 0, locals := 0 }) dX6_bakery_14 (r_is (t := 1) _ _ _ _ _ _ (by decide) (isI_at)) w_X6_83 rfl (by decide) rfl ⟨by decide, by decide⟩ (by decide) (by decide) rfl (Nat.le_of_ble_eq_true rfl) (fun I14 J14 q14 => ?_)
  obtain ⟨rfl, rfl⟩ := rvv q14
  refine pw_aload_n dX6_bakery_17 rfl ?_
  refine pw_iconst (v := 0) dX6_bakery_18 (by decide) ?_
  refine pw_iconst (v := 3) dX6_bakery_19 (by decide) ?_
  refine pw_iconst (v := 0) dX6_bakery_20 (by decide) ?_
  refine pw_iconst (v := 0) dX6_bakery_21 (by decide) ?_
  refine pw_cVv (ci := 6) (y := yX6_is) (cc := cX6_is) (nL := 5) (ret := none) (rm := { frames := 0, cells := 0, slots := 0, locals := 0 }) dX6_bakery_22 (r_is (t := 2) _ _ _ _ _ _ (by decide) (isI_at)) w_X6_83 rfl (by decide) rfl ⟨by decide, by decide⟩ (by decide) (by decide) rfl (Nat.le_of_ble_eq_true rfl) (fun I22 J22 q22 => ?_)
  obtain ⟨rfl, rfl⟩ := rvv q22
  refine pw_aload_n dX6_bakery_25 rfl ?_
  refine pw_iconst (v := 0) dX6_bakery_26 (by decide) ?_
  refine pw_iconst (v := 4) dX6_bakery_27 (by decide) ?_
  refine pw_iconst (v := 0) dX6_bakery_28 (by decide) ?_
  refine pw_iconst (v := 0) dX6_bakery_29 (by decide) ?_
  refine pw_cVv (ci := 6) (y := yX6_is) (cc := cX6_is) (nL := 5) (ret := none) (rm := { frames := 0, cells := 0, slots := 0, locals := 0 }) dX6_bakery_30 (r_is (t := 3) _ _ _ _ _ _ (by decide) (isI_at)) w_X6_83 rfl (by decide) rfl ⟨by decide, by decide⟩ (by decide) (by decide) rfl (Nat.le_of_ble_eq_true rfl) (fun I30 J30 q30 => ?_)
  obtain ⟨rfl, rfl⟩ := rvv q30
  refine pw_aload_n dX6_bakery_33 rfl ?_
  refine pw_iconst (v := 3) dX6_bakery_34 (by decide) ?_
  refine pw_iconst (v := 4) dX6_bakery_35 (by decide) ?_
  refine pw_iconst (v := 1) dX6_bakery_36 (by decide) ?_
  refine pw_bipush (v := 10) dX6_bakery_37 (by decide) ?_
  refine pw_cVv (ci := 6) (y := yX6_is) (cc := cX6_is) (nL := 5) (ret := none) (rm := { frames := 0, cells := 0, slots := 0, locals := 0 }) dX6_bakery_39 (r_is (t := 4) _ _ _ _ _ _ (by decide) (isI_at)) w_X6_83 rfl (by decide) rfl ⟨by decide, by decide⟩ (by decide) (by decide) rfl (Nat.le_of_ble_eq_true rfl) (fun I39 J39 q39 => ?_)
  obtain ⟨rfl, rfl⟩ := rvv q39
  refine pw_aload_n dX6_bakery_42 rfl ?_
  refine pw_bipush (v := 7) dX6_bakery_43 (by decide) ?_
  refine pw_iconst (v := 5) dX6_bakery_45 (by decide) ?_
  refine pw_iconst (v := 3) dX6_bakery_46 (by decide) ?_
  refine pw_iconst (v := 4) dX6_bakery_47 (by decide) ?_
  refine pw_cVv (ci := 6) (y := yX6_is) (cc := cX6_is) (nL := 5) (ret := none) (rm := { frames := 0, cells := 0, slots := 0, locals := 0 }) dX6_bakery_48 (r_is (t := 5) _ _ _ _ _ _ (by decide) (isI_at)) w_X6_83 rfl (by decide) rfl ⟨by decide, by decide⟩ (by decide) (by decide) rfl (Nat.le_of_ble_eq_true rfl) (fun I48 J48 q48 => ?_)
  obtain ⟨rfl, rfl⟩ := rvv q48
  refine pw_aload_n dX6_bakery_51 rfl ?_
  refine pw_iconst (v := 4) dX6_bakery_52 (by decide) ?_
  refine pw_iconst (v := 5) dX6_bakery_53 (by decide) ?_
  refine pw_iconst (v := 3) dX6_bakery_54 (by decide) ?_
  refine pw_bipush (v := 8) dX6_bakery_55 (by decide) ?_
  refine pw_cVv (ci := 6) (y := yX6_is) (cc := cX6_is) (nL := 5) (ret := none) (rm := { frames := 0, cells := 0, slots := 0, locals := 0 }) dX6_bakery_57 (r_is (t := 6) _ _ _ _ _ _ (by decide) (isI_at)) w_X6_83 rfl (by decide) rfl ⟨by decide, by decide⟩ (by decide) (by decide) rfl (Nat.le_of_ble_eq_true rfl) (fun I57 J57 q57 => ?_)
  obtain ⟨rfl, rfl⟩ := rvv q57
  refine pw_aload_n dX6_bakery_60 rfl ?_
  refine pw_iconst (v := 2) dX6_bakery_61 (by decide) ?_
  refine pw_iconst (v := 3) dX6_bakery_62 (by decide) ?_
  refine pw_iconst (v := 5) dX6_bakery_63 (by decide) ?_
  refine pw_iconst (v := 0) dX6_bakery_64 (by decide) ?_
  refine pw_cVv (ci := 6) (y := yX6_is) (cc := cX6_is) (nL := 5) (ret := none) (rm := { frames := 0, cells := 0, slots := 0, locals := 0 }) dX6_bakery_65 (r_is (t := 7) _ _ _ _ _ _ (by decide) (isI_at)) w_X6_83 rfl (by decide) rfl ⟨by decide, by decide⟩ (by decide) (by decide) rfl (Nat.le_of_ble_eq_true rfl) (fun I65 J65 q65 => ?_)
  obtain ⟨rfl, rfl⟩ := rvv q65
  refine pw_aload_n dX6_bakery_68 rfl ?_
  refine pw_iconst (v := 1) dX6_bakery_69 (by decide) ?_
  refine pw_iconst (v := 4) dX6_bakery_70 (by decide) ?_
  refine pw_iconst (v := 1) dX6_bakery_71 (by decide) ?_
  refine pw_iconst (v := 0) dX6_bakery_72 (by decide) ?_
  refine pw_cVv (ci := 6) (y := yX6_is) (cc := cX6_is) (nL := 5) (ret := none) (rm := { frames := 0, cells := 0, slots := 0, locals := 0 }) dX6_bakery_73 (r_is (t := 8) _ _ _ _ _ _ (by decide) (isI_at)) w_X6_83 rfl (by decide) rfl ⟨by decide, by decide⟩ (by decide) (by decide) rfl (Nat.le_of_ble_eq_true rfl) (fun I73 J73 q73 => ?_)
  obtain ⟨rfl, rfl⟩ := rvv q73
  refine pw_aload_n dX6_bakery_76 rfl ?_
  refine pw_iconst (v := 5) dX6_bakery_77 (by decide) ?_
  refine pw_iconst (v := 0) dX6_bakery_78 (by decide) ?_
  refine pw_iconst (v := 0) dX6_bakery_79 (by decide) ?_
  refine pw_iconst (v := 4) dX6_bakery_80 (by decide) ?_
  refine pw_cVv (ci := 6) (y := yX6_is) (cc := cX6_is) (nL := 5) (ret := none) (rm := { frames := 0, cells := 0, slots := 0, locals := 0 }) dX6_bakery_81 (r_is (t := 9) _ _ _ _ _ _ (by decide) (isI_at)) w_X6_83 rfl (by decide) rfl ⟨by decide, by decide⟩ (by decide) (by decide) rfl (Nat.le_of_ble_eq_true rfl) (fun I81 J81 q81 => ?_)
  obtain ⟨rfl, rfl⟩ := rvv q81
  refine pw_aload_n dX6_bakery_84 rfl ?_
  refine pw_iconst (v := 1) dX6_bakery_85 (by decide) ?_
  refine pw_iconst (v := 3) dX6_bakery_86 (by decide) ?_
  refine pw_iconst (v := 1) dX6_bakery_87 (by decide) ?_
  refine pw_iconst (v := 0) dX6_bakery_88 (by decide) ?_
  refine pw_cVv (ci := 6) (y := yX6_is) (cc := cX6_is) (nL := 5) (ret := none) (rm := { frames := 0, cells := 0, slots := 0, locals := 0 }) dX6_bakery_89 (r_is (t := 10) _ _ _ _ _ _ (by decide) (isI_at)) w_X6_83 rfl (by decide) rfl ⟨by decide, by decide⟩ (by decide) (by decide) rfl (Nat.le_of_ble_eq_true rfl) (fun I89 J89 q89 => ?_)
  obtain ⟨rfl, rfl⟩ := rvv q89
  refine pw_aload_n dX6_bakery_92 rfl ?_
  refine pw_bipush (v := 8) dX6_bakery_93 (by decide) ?_
  refine pw_iconst (v := 3) dX6_bakery_95 (by decide) ?_
  refine pw_iconst (v := 3) dX6_bakery_96 (by decide) ?_
  refine pw_iconst (v := 0) dX6_bakery_97 (by decide) ?_
  refine pw_cVv (ci := 6) (y := yX6_is) (cc := cX6_is) (nL := 5) (ret := none) (rm := { frames := 0, cells := 0, slots := 0, locals := 0 }) dX6_bakery_98 (r_is (t := 11) _ _ _ _ _ _ (by decide) (isI_at)) w_X6_83 rfl (by decide) rfl ⟨by decide, by decide⟩ (by decide) (by decide) rfl (Nat.le_of_ble_eq_true rfl) (fun I98 J98 q98 => ?_)
  obtain ⟨rfl, rfl⟩ := rvv q98
  refine pw_aload_n dX6_bakery_101 rfl ?_
  refine pw_iconst (v := 0) dX6_bakery_102 (by decide) ?_
  refine pw_iconst (v := 2) dX6_bakery_103 (by decide) ?_
  refine pw_iconst (v := 0) dX6_bakery_104 (by decide) ?_
  refine pw_iconst (v := 0) dX6_bakery_105 (by decide) ?_
  refine pw_cVv (ci := 6) (y := yX6_is) (cc := cX6_is) (nL := 5) (ret := none) (rm := { frames := 0, cells := 0, slots := 0, locals := 0 }) dX6_bakery_106 (r_is (t := 12) _ _ _ _ _ _ (by decide) (isI_at)) w_X6_83 rfl (by decide) rfl ⟨by decide, by decide⟩ (by decide) (by decide) rfl (Nat.le_of_ble_eq_true rfl) (fun I106 J106 q106 => ?_)
  obtain ⟨rfl, rfl⟩ := rvv q106
  refine pw_aload_n dX6_bakery_109 rfl ?_
  refine pw_bipush (v := 8) dX6_bakery_110 (by decide) ?_
  refine pw_iconst (v := 2) dX6_bakery_112 (by decide) ?_
  refine pw_iconst (v := 0) dX6_bakery_113 (by decide) ?_
  refine pw_iconst (v := 0) dX6_bakery_114 (by decide) ?_
  refine pw_cVv (ci := 6) (y := yX6_is) (cc := cX6_is) (nL := 5) (ret := none) (rm := { frames := 0, cells := 0, slots := 0, locals := 0 }) dX6_bakery_115 (r_is (t := 13) _ _ _ _ _ _ (by decide) (isI_at)) w_X6_83 rfl (by decide) rfl ⟨by decide, by decide⟩ (by decide) (by decide) rfl (Nat.le_of_ble_eq_true rfl) (fun I115 J115 q115 => ?_)
  obtain ⟨rfl, rfl⟩ := rvv q115
  refine pw_aload_n dX6_bakery_118 rfl ?_
  refine pw_bipush (v := 6) dX6_bakery_119 (by decide) ?_
  refine pw_iconst (v := 0) dX6_bakery_121 (by decide) ?_
  refine pw_iconst (v := 0) dX6_bakery_122 (by decide) ?_
  refine pw_iconst (v := 0) dX6_bakery_123 (by decide) ?_
  refine pw_cVv (ci := 6) (y := yX6_is) (cc := cX6_is) (nL := 5) (ret := none) (rm := { frames := 0, cells := 0, slots := 0, locals := 0 }) dX6_bakery_124 (r_is (t := 14) _ _ _ _ _ _ (by decide) (isI_at)) w_X6_83 rfl (by decide) rfl ⟨by decide, by decide⟩ (by decide) (by decide) rfl (Nat.le_of_ble_eq_true rfl) (fun I124 J124 q124 => ?_)
  obtain ⟨rfl, rfl⟩ := rvv q124
  refine pw_aload_n dX6_bakery_127 rfl ?_
  refine pw_iconst (v := 0) dX6_bakery_128 (by decide) ?_
  refine pw_iconst (v := 4) dX6_bakery_129 (by decide) ?_
  refine pw_iconst (v := 0) dX6_bakery_130 (by decide) ?_
  refine pw_iconst (v := 0) dX6_bakery_131 (by decide) ?_
  refine pw_cVv (ci := 6) (y := yX6_is) (cc := cX6_is) (nL := 5) (ret := none) (rm := { frames := 0, cells := 0, slots := 0, locals := 0 }) dX6_bakery_132 (r_is (t := 15) _ _ _ _ _ _ (by decide) (isI_at)) w_X6_83 rfl (by decide) rfl ⟨by decide, by decide⟩ (by decide) (by decide) rfl (Nat.le_of_ble_eq_true rfl) (fun I132 J132 q132 => ?_)
  obtain ⟨rfl, rfl⟩ := rvv q132
  refine pw_aload_n dX6_bakery_135 rfl ?_
  refine pw_iconst (v := 3) dX6_bakery_136 (by decide) ?_
  refine pw_iconst (v := 4) dX6_bakery_137 (by decide) ?_
  refine pw_iconst (v := 1) dX6_bakery_138 (by decide) ?_
  refine pw_bipush (v := 30) dX6_bakery_139 (by decide) ?_
  refine pw_cVv (ci := 6) (y := yX6_is) (cc := cX6_is) (nL := 5) (ret := none) (rm := { frames := 0, cells := 0, slots := 0, locals := 0 }) dX6_bakery_141 (r_is (t := 16) _ _ _ _ _ _ (by decide) (isI_at)) w_X6_83 rfl (by decide) rfl ⟨by decide, by decide⟩ (by decide) (by decide) rfl (Nat.le_of_ble_eq_true rfl) (fun I141 J141 q141 => ?_)
  obtain ⟨rfl, rfl⟩ := rvv q141
  refine pw_aload_n dX6_bakery_144 rfl ?_
  refine pw_iconst (v := 3) dX6_bakery_145 (by decide) ?_
  refine pw_iconst (v := 4) dX6_bakery_146 (by decide) ?_
  refine pw_iconst (v := 0) dX6_bakery_147 (by decide) ?_
  refine pw_bipush (v := 28) dX6_bakery_148 (by decide) ?_
  refine pw_cVv (ci := 6) (y := yX6_is) (cc := cX6_is) (nL := 5) (ret := none) (rm := { frames := 0, cells := 0, slots := 0, locals := 0 }) dX6_bakery_150 (r_is (t := 17) _ _ _ _ _ _ (by decide) (isI_at)) w_X6_83 rfl (by decide) rfl ⟨by decide, by decide⟩ (by decide) (by decide) rfl (Nat.le_of_ble_eq_true rfl) (fun I150 J150 q150 => ?_)
  obtain ⟨rfl, rfl⟩ := rvv q150
  refine pw_aload_n dX6_bakery_153 rfl ?_
  refine pw_bipush (v := 7) dX6_bakery_154 (by decide) ?_
  refine pw_iconst (v := 5) dX6_bakery_156 (by decide) ?_
  refine pw_iconst (v := 0) dX6_bakery_157 (by decide) ?_
  refine pw_iconst (v := 4) dX6_bakery_158 (by decide) ?_
  refine pw_cVv (ci := 6) (y := yX6_is) (cc := cX6_is) (nL := 5) (ret := none) (rm := { frames := 0, cells := 0, slots := 0, locals := 0 }) dX6_bakery_159 (r_is (t := 18) _ _ _ _ _ _ (by decide) (isI_at)) w_X6_83 rfl (by decide) rfl ⟨by decide, by decide⟩ (by decide) (by decide) rfl (Nat.le_of_ble_eq_true rfl) (fun I159 J159 q159 => ?_)
  obtain ⟨rfl, rfl⟩ := rvv q159
  refine pw_aload_n dX6_bakery_162 rfl ?_
  refine pw_iconst (v := 3) dX6_bakery_163 (by decide) ?_
  refine pw_iconst (v := 5) dX6_bakery_164 (by decide) ?_
  refine pw_iconst (v := 2) dX6_bakery_165 (by decide) ?_
  refine pw_bipush (v := 21) dX6_bakery_166 (by decide) ?_
  refine pw_cVv (ci := 6) (y := yX6_is) (cc := cX6_is) (nL := 5) (ret := none) (rm := { frames := 0, cells := 0, slots := 0, locals := 0 }) dX6_bakery_168 (r_is (t := 19) _ _ _ _ _ _ (by decide) (isI_at)) w_X6_83 rfl (by decide) rfl ⟨by decide, by decide⟩ (by decide) (by decide) rfl (Nat.le_of_ble_eq_true rfl) (fun I168 J168 q168 => ?_)
  obtain ⟨rfl, rfl⟩ := rvv q168
  refine pw_aload_n dX6_bakery_171 rfl ?_
  refine pw_iconst (v := 5) dX6_bakery_172 (by decide) ?_
  refine pw_iconst (v := 0) dX6_bakery_173 (by decide) ?_
  refine pw_iconst (v := 0) dX6_bakery_174 (by decide) ?_
  refine pw_bipush (v := 18) dX6_bakery_175 (by decide) ?_
  refine pw_cVv (ci := 6) (y := yX6_is) (cc := cX6_is) (nL := 5) (ret := none) (rm := { frames := 0, cells := 0, slots := 0, locals := 0 }) dX6_bakery_177 (r_is (t := 20) _ _ _ _ _ _ (by decide) (isI_at)) w_X6_83 rfl (by decide) rfl ⟨by decide, by decide⟩ (by decide) (by decide) rfl (Nat.le_of_ble_eq_true rfl) (fun I177 J177 q177 => ?_)
  obtain ⟨rfl, rfl⟩ := rvv q177
  refine pw_aload_n dX6_bakery_180 rfl ?_
  refine pw_bipush (v := 7) dX6_bakery_181 (by decide) ?_
  refine pw_iconst (v := 5) dX6_bakery_183 (by decide) ?_
  refine pw_iconst (v := 3) dX6_bakery_184 (by decide) ?_
  refine pw_iconst (v := 4) dX6_bakery_185 (by decide) ?_
  refine pw_cVv (ci := 6) (y := yX6_is) (cc := cX6_is) (nL := 5) (ret := none) (rm := { frames := 0, cells := 0, slots := 0, locals := 0 }) dX6_bakery_186 (r_is (t := 21) _ _ _ _ _ _ (by decide) (isI_at)) w_X6_83 rfl (by decide) rfl ⟨by decide, by decide⟩ (by decide) (by decide) rfl (Nat.le_of_ble_eq_true rfl) (fun I186 J186 q186 => ?_)
  obtain ⟨rfl, rfl⟩ := rvv q186
  refine pw_aload_n dX6_bakery_189 rfl ?_
  refine pw_iconst (v := 3) dX6_bakery_190 (by decide) ?_
  refine pw_iconst (v := 5) dX6_bakery_191 (by decide) ?_
  refine pw_iconst (v := 2) dX6_bakery_192 (by decide) ?_
  refine pw_bipush (v := 28) dX6_bakery_193 (by decide) ?_
  refine pw_cVv (ci := 6) (y := yX6_is) (cc := cX6_is) (nL := 5) (ret := none) (rm := { frames := 0, cells := 0, slots := 0, locals := 0 }) dX6_bakery_195 (r_is (t := 22) _ _ _ _ _ _ (by decide) (isI_at)) w_X6_83 rfl (by decide) rfl ⟨by decide, by decide⟩ (by decide) (by decide) rfl (Nat.le_of_ble_eq_true rfl) (fun I195 J195 q195 => ?_)
  obtain ⟨rfl, rfl⟩ := rvv q195
  refine pw_aload_n dX6_bakery_198 rfl ?_
  refine pw_iconst (v := 4) dX6_bakery_199 (by decide) ?_
  refine pw_iconst (v := 5) dX6_bakery_200 (by decide) ?_
  refine pw_iconst (v := 3) dX6_bakery_201 (by decide) ?_
  refine pw_bipush (v := 21) dX6_bakery_202 (by decide) ?_
  refine pw_cVv (ci := 6) (y := yX6_is) (cc := cX6_is) (nL := 5) (ret := none) (rm := { frames := 0, cells := 0, slots := 0, locals := 0 }) dX6_bakery_204 (r_is (t := 23) _ _ _ _ _ _ (by decide) (isI_at)) w_X6_83 rfl (by decide) rfl ⟨by decide, by decide⟩ (by decide) (by decide) rfl (Nat.le_of_ble_eq_true rfl) (fun I204 J204 q204 => ?_)
  obtain ⟨rfl, rfl⟩ := rvv q204
  refine pw_aload_n dX6_bakery_207 rfl ?_
  refine pw_iconst (v := 3) dX6_bakery_208 (by decide) ?_
  refine pw_iconst (v := 5) dX6_bakery_209 (by decide) ?_
  refine pw_iconst (v := 3) dX6_bakery_210 (by decide) ?_
  refine pw_bipush (v := 26) dX6_bakery_211 (by decide) ?_
  refine pw_cVv (ci := 6) (y := yX6_is) (cc := cX6_is) (nL := 5) (ret := none) (rm := { frames := 0, cells := 0, slots := 0, locals := 0 }) dX6_bakery_213 (r_is (t := 24) _ _ _ _ _ _ (by decide) (isI_at)) w_X6_83 rfl (by decide) rfl ⟨by decide, by decide⟩ (by decide) (by decide) rfl (Nat.le_of_ble_eq_true rfl) (fun I213 J213 q213 => ?_)
  obtain ⟨rfl, rfl⟩ := rvv q213
  refine pw_aload_n dX6_bakery_216 rfl ?_
  refine pw_iconst (v := 5) dX6_bakery_217 (by decide) ?_
  refine pw_iconst (v := 0) dX6_bakery_218 (by decide) ?_
  refine pw_iconst (v := 0) dX6_bakery_219 (by decide) ?_
  refine pw_bipush (v := 28) dX6_bakery_220 (by decide) ?_
  refine pw_cVv (ci := 6) (y := yX6_is) (cc := cX6_is) (nL := 5) (ret := none) (rm := { frames := 0, cells := 0, slots := 0, locals := 0 }) dX6_bakery_222 (r_is (t := 25) _ _ _ _ _ _ (by decide) (isI_at)) w_X6_83 rfl (by decide) rfl ⟨by decide, by decide⟩ (by decide) (by decide) rfl (Nat.le_of_ble_eq_true rfl) (fun I222 J222 q222 => ?_)
  obtain ⟨rfl, rfl⟩ := rvv q222
  refine pw_aload_n dX6_bakery_225 rfl ?_
  refine pw_iconst (v := 4) dX6_bakery_226 (by decide) ?_
  refine pw_iconst (v := 4) dX6_bakery_227 (by decide) ?_
  refine pw_iconst (v := 0) dX6_bakery_228 (by decide) ?_
  refine pw_bipush (v := 21) dX6_bakery_229 (by decide) ?_
  refine pw_cVv (ci := 6) (y := yX6_is) (cc := cX6_is) (nL := 5) (ret := none) (rm := { frames := 0, cells := 0, slots := 0, locals := 0 }) dX6_bakery_231 (r_is (t := 26) _ _ _ _ _ _ (by decide) (isI_at)) w_X6_83 rfl (by decide) rfl ⟨by decide, by decide⟩ (by decide) (by decide) rfl (Nat.le_of_ble_eq_true rfl) (fun I231 J231 q231 => ?_)
  obtain ⟨rfl, rfl⟩ := rvv q231
  refine pw_aload_n dX6_bakery_234 rfl ?_
  refine pw_iconst (v := 5) dX6_bakery_235 (by decide) ?_
  refine pw_iconst (v := 0) dX6_bakery_236 (by decide) ?_
  refine pw_iconst (v := 0) dX6_bakery_237 (by decide) ?_
  refine pw_bipush (v := 28) dX6_bakery_238 (by decide) ?_
  refine pw_cVv (ci := 6) (y := yX6_is) (cc := cX6_is) (nL := 5) (ret := none) (rm := { frames := 0, cells := 0, slots := 0, locals := 0 }) dX6_bakery_240 (r_is (t := 27) _ _ _ _ _ _ (by decide) (isI_at)) w_X6_83 rfl (by decide) rfl ⟨by decide, by decide⟩ (by decide) (by decide) rfl (Nat.le_of_ble_eq_true rfl) (fun I240 J240 q240 => ?_)
  obtain ⟨rfl, rfl⟩ := rvv q240
  refine pw_aload_n dX6_bakery_243 rfl ?_
  refine pw_iconst (v := 1) dX6_bakery_244 (by decide) ?_
  refine pw_iconst (v := 4) dX6_bakery_245 (by decide) ?_
  refine pw_iconst (v := 1) dX6_bakery_246 (by decide) ?_
  refine pw_iconst (v := 0) dX6_bakery_247 (by decide) ?_
  refine pw_cVv (ci := 6) (y := yX6_is) (cc := cX6_is) (nL := 5) (ret := none) (rm := { frames := 0, cells := 0, slots := 0, locals := 0 }) dX6_bakery_248 (r_is (t := 28) _ _ _ _ _ _ (by decide) (isI_at)) w_X6_83 rfl (by decide) rfl ⟨by decide, by decide⟩ (by decide) (by decide) rfl (Nat.le_of_ble_eq_true rfl) (fun I248 J248 q248 => ?_)
  obtain ⟨rfl, rfl⟩ := rvv q248
  refine pw_aload_n dX6_bakery_251 rfl ?_
  refine pw_iconst (v := 5) dX6_bakery_252 (by decide) ?_
  refine pw_iconst (v := 0) dX6_bakery_253 (by decide) ?_
  refine pw_iconst (v := 0) dX6_bakery_254 (by decide) ?_
  refine pw_bipush (v := 16) dX6_bakery_255 (by decide) ?_
  refine pw_cVv (ci := 6) (y := yX6_is) (cc := cX6_is) (nL := 5) (ret := none) (rm := { frames := 0, cells := 0, slots := 0, locals := 0 }) dX6_bakery_257 (r_is (t := 29) _ _ _ _ _ _ (by decide) (isI_at)) w_X6_83 rfl (by decide) rfl ⟨by decide, by decide⟩ (by decide) (by decide) rfl (Nat.le_of_ble_eq_true rfl) (fun I257 J257 q257 => ?_)
  obtain ⟨rfl, rfl⟩ := rvv q257
  refine pw_aload_n dX6_bakery_260 rfl ?_
  refine pw_bipush (v := 12) dX6_bakery_261 (by decide) ?_
  refine pw_iconst (v := 0) dX6_bakery_263 (by decide) ?_
  refine pw_iconst (v := 0) dX6_bakery_264 (by decide) ?_
  refine pw_iconst (v := 0) dX6_bakery_265 (by decide) ?_
  refine pw_cVv (ci := 6) (y := yX6_is) (cc := cX6_is) (nL := 5) (ret := none) (rm := { frames := 0, cells := 0, slots := 0, locals := 0 }) dX6_bakery_266 (r_is (t := 30) _ _ _ _ _ _ (by decide) (isI_at)) w_X6_83 rfl (by decide) rfl ⟨by decide, by decide⟩ (by decide) (by decide) rfl (Nat.le_of_ble_eq_true rfl) (fun I266 J266 q266 => ?_)
  obtain ⟨rfl, rfl⟩ := rvv q266
  refine pw_aload_n dX6_bakery_269 rfl ?_
  refine pw_bipush (v := 8) dX6_bakery_270 (by decide) ?_
  refine pw_iconst (v := 2) dX6_bakery_272 (by decide) ?_
  refine pw_iconst (v := 3) dX6_bakery_273 (by decide) ?_
  refine pw_iconst (v := 0) dX6_bakery_274 (by decide) ?_
  refine pw_cVv (ci := 6) (y := yX6_is) (cc := cX6_is) (nL := 5) (ret := none) (rm := { frames := 0, cells := 0, slots := 0, locals := 0 }) dX6_bakery_275 (r_is (t := 31) _ _ _ _ _ _ (by decide) (isI_at)) w_X6_83 rfl (by decide) rfl ⟨by decide, by decide⟩ (by decide) (by decide) rfl (Nat.le_of_ble_eq_true rfl) (fun I275 J275 q275 => ?_)
  obtain ⟨rfl, rfl⟩ := rvv q275
  refine pw_aload_n dX6_bakery_278 rfl ?_
  refine pw_bipush (v := 13) dX6_bakery_279 (by decide) ?_
  refine pw_iconst (v := 0) dX6_bakery_281 (by decide) ?_
  refine pw_iconst (v := 0) dX6_bakery_282 (by decide) ?_
  refine pw_iconst (v := 0) dX6_bakery_283 (by decide) ?_
  refine pw_cVv (ci := 6) (y := yX6_is) (cc := cX6_is) (nL := 5) (ret := none) (rm := { frames := 0, cells := 0, slots := 0, locals := 0 }) dX6_bakery_284 (r_is (t := 32) _ _ _ _ _ _ (by decide) (isI_at)) w_X6_83 rfl (by decide) rfl ⟨by decide, by decide⟩ (by decide) (by decide) rfl (Nat.le_of_ble_eq_true rfl) (fun I284 J284 q284 => ?_)
  obtain ⟨rfl, rfl⟩ := rvv q284
  refine pw_vret dX6_bakery_287 rfl (by decide) (by decide) ?_
  exact ⟨rfl, rfl, rfl, rfl, rfl⟩
def xs_levels : List (Int32 × Int32 × Int32 × Int32) := [(0, 2, 1, 0), (3, 2, 1, 18), (8, 2, 0, 0), (8, 0, 3, 2), (0, 4, 0, 0), (3, 4, 1, 16), (3, 4, 0, 14), (7, 5, 0, 4), (4, 5, 2, 14), (7, 5, 3, 2), (3, 5, 0, 12), (5, 0, 0, 16), (0, 4, 0, 0), (5, 0, 0, 5), (1, 4, 1, 0), (5, 0, 0, 5), (1, 2, 1, 0), (5, 0, 0, 1), (12, 0, 0, 0), (0, 2, 0, 0), (8, 2, 0, 0), (13, 0, 0, 0)]
set_option maxRecDepth 100000 in
set_option maxHeartbeats 4000000 in
theorem r_levels (I : pI) (J : pJ) (h0 : I 64 23 = nI 0) : pMet yX6_levels (pws yX6_levels cX6_levels 1 none) { frames := 1, cells := 0, slots := 0, locals := 24 } [.ref 64] 84 I J pRs (pOv (fun I' J' => I' = isL xs_levels 0 I ∧ J' = J)) := by
  refine pMet_of (by decide) (Nat.le_of_ble_eq_true rfl) ?_
  refine pw_aload_n dX6_levels_0 rfl ?_
  refine pw_iconst (v := 0) dX6_levels_1 (by decide) ?_
  refine pw_iconst (v := 2) dX6_levels_2 (by decide) ?_
  refine pw_iconst (v := 1) dX6_levels_3 (by decide) ?_
  refine pw_iconst (v := 0) dX6_levels_4 (by decide) ?_
  refine pw_cVv (ci := 6) (y := yX6_is) (cc := cX6_is) (nL := 5) (ret := none) (rm := { frames := 0, cells := 0, slots := 0, locals := 0 }) dX6_levels_5 (r_is (t := 0) _ _ _ _ _ _ (by decide) (h0)) w_X6_83 rfl (by decide) rfl ⟨by decide, by decide⟩ (by decide) (by decide) rfl (Nat.le_of_ble_eq_true rfl) (fun I5 J5 q5 => ?_)
  obtain ⟨rfl, rfl⟩ := rvv q5
  refine pw_aload_n dX6_levels_8 rfl ?_
  refine pw_iconst (v := 3) dX6_levels_9 (by decide) ?_
  refine pw_iconst (v := 2) dX6_levels_10 (by decide) ?_
  refine pw_iconst (v := 1) dX6_levels_11 (by decide) ?_
  refine pw_bipush (v := 18) dX6_levels_12 (by decide) ?_
  refine pw_cVv (ci := 6) (y := yX6_is) (cc := cX6_is) (nL := 5) (ret := none) (rm := { frames := 0, cells := 0, slots := 0, locals := 0 }) dX6_levels_14 (r_is (t := 1) _ _ _ _ _ _ (by decide) (isI_at)) w_X6_83 rfl (by decide) rfl ⟨by decide, by decide⟩ (by decide) (by decide) rfl (Nat.le_of_ble_eq_true rfl) (fun I14 J14 q14 => ?_)
  obtain ⟨rfl, rfl⟩ := rvv q14
  refine pw_aload_n dX6_levels_17 rfl ?_
  refine pw_bipush (v := 8) dX6_levels_18 (by decide) ?_
  refine pw_iconst (v := 2) dX6_levels_20 (by decide) ?_
  refine pw_iconst (v := 0) dX6_levels_21 (by decide) ?_
  refine pw_iconst (v := 0) dX6_levels_22 (by decide) ?_
  refine pw_cVv (ci := 6) (y := yX6_is) (cc := cX6_is) (nL := 5) (ret := none) (rm := { frames := 0, cells := 0, slots := 0, locals := 0 }) dX6_levels_23 (r_is (t := 2) _ _ _ _ _ _ (by decide) (isI_at)) w_X6_83 rfl (by decide) rfl ⟨by decide, by decide⟩ (by decide) (by decide) rfl (Nat.le_of_ble_eq_true rfl) (fun I23 J23 q23 => ?_)
  obtain ⟨rfl, rfl⟩ := rvv q23
  refine pw_aload_n dX6_levels_26 rfl ?_
  refine pw_bipush (v := 8) dX6_levels_27 (by decide) ?_
  refine pw_iconst (v := 0) dX6_levels_29 (by decide) ?_
  refine pw_iconst (v := 3) dX6_levels_30 (by decide) ?_
  refine pw_iconst (v := 2) dX6_levels_31 (by decide) ?_
  refine pw_cVv (ci := 6) (y := yX6_is) (cc := cX6_is) (nL := 5) (ret := none) (rm := { frames := 0, cells := 0, slots := 0, locals := 0 }) dX6_levels_32 (r_is (t := 3) _ _ _ _ _ _ (by decide) (isI_at)) w_X6_83 rfl (by decide) rfl ⟨by decide, by decide⟩ (by decide) (by decide) rfl (Nat.le_of_ble_eq_true rfl) (fun I32 J32 q32 => ?_)
  obtain ⟨rfl, rfl⟩ := rvv q32
  refine pw_aload_n dX6_levels_35 rfl ?_
  refine pw_iconst (v := 0) dX6_levels_36 (by decide) ?_
  refine pw_iconst (v := 4) dX6_levels_37 (by decide) ?_
  refine pw_iconst (v := 0) dX6_levels_38 (by decide) ?_
  refine pw_iconst (v := 0) dX6_levels_39 (by decide) ?_
  refine pw_cVv (ci := 6) (y := yX6_is) (cc := cX6_is) (nL := 5) (ret := none) (rm := { frames := 0, cells := 0, slots := 0, locals := 0 }) dX6_levels_40 (r_is (t := 4) _ _ _ _ _ _ (by decide) (isI_at)) w_X6_83 rfl (by decide) rfl ⟨by decide, by decide⟩ (by decide) (by decide) rfl (Nat.le_of_ble_eq_true rfl) (fun I40 J40 q40 => ?_)
  obtain ⟨rfl, rfl⟩ := rvv q40
  refine pw_aload_n dX6_levels_43 rfl ?_
  refine pw_iconst (v := 3) dX6_levels_44 (by decide) ?_
  refine pw_iconst (v := 4) dX6_levels_45 (by decide) ?_
  refine pw_iconst (v := 1) dX6_levels_46 (by decide) ?_
  refine pw_bipush (v := 16) dX6_levels_47 (by decide) ?_
  refine pw_cVv (ci := 6) (y := yX6_is) (cc := cX6_is) (nL := 5) (ret := none) (rm := { frames := 0, cells := 0, slots := 0, locals := 0 }) dX6_levels_49 (r_is (t := 5) _ _ _ _ _ _ (by decide) (isI_at)) w_X6_83 rfl (by decide) rfl ⟨by decide, by decide⟩ (by decide) (by decide) rfl (Nat.le_of_ble_eq_true rfl) (fun I49 J49 q49 => ?_)
  obtain ⟨rfl, rfl⟩ := rvv q49
  refine pw_aload_n dX6_levels_52 rfl ?_
  refine pw_iconst (v := 3) dX6_levels_53 (by decide) ?_
  refine pw_iconst (v := 4) dX6_levels_54 (by decide) ?_
  refine pw_iconst (v := 0) dX6_levels_55 (by decide) ?_
  refine pw_bipush (v := 14) dX6_levels_56 (by decide) ?_
  refine pw_cVv (ci := 6) (y := yX6_is) (cc := cX6_is) (nL := 5) (ret := none) (rm := { frames := 0, cells := 0, slots := 0, locals := 0 }) dX6_levels_58 (r_is (t := 6) _ _ _ _ _ _ (by decide) (isI_at)) w_X6_83 rfl (by decide) rfl ⟨by decide, by decide⟩ (by decide) (by decide) rfl (Nat.le_of_ble_eq_true rfl) (fun I58 J58 q58 => ?_)
  obtain ⟨rfl, rfl⟩ := rvv q58
  refine pw_aload_n dX6_levels_61 rfl ?_
  refine pw_bipush (v := 7) dX6_levels_62 (by decide) ?_
  refine pw_iconst (v := 5) dX6_levels_64 (by decide) ?_
  refine pw_iconst (v := 0) dX6_levels_65 (by decide) ?_
  refine pw_iconst (v := 4) dX6_levels_66 (by decide) ?_
  refine pw_cVv (ci := 6) (y := yX6_is) (cc := cX6_is) (nL := 5) (ret := none) (rm := { frames := 0, cells := 0, slots := 0, locals := 0 }) dX6_levels_67 (r_is (t := 7) _ _ _ _ _ _ (by decide) (isI_at)) w_X6_83 rfl (by decide) rfl ⟨by decide, by decide⟩ (by decide) (by decide) rfl (Nat.le_of_ble_eq_true rfl) (fun I67 J67 q67 => ?_)
  obtain ⟨rfl, rfl⟩ := rvv q67
  refine pw_aload_n dX6_levels_70 rfl ?_
  refine pw_iconst (v := 4) dX6_levels_71 (by decide) ?_
  refine pw_iconst (v := 5) dX6_levels_72 (by decide) ?_
  refine pw_iconst (v := 2) dX6_levels_73 (by decide) ?_
  refine pw_bipush (v := 14) dX6_levels_74 (by decide) ?_
  refine pw_cVv (ci := 6) (y := yX6_is) (cc := cX6_is) (nL := 5) (ret := none) (rm := { frames := 0, cells := 0, slots := 0, locals := 0 }) dX6_levels_76 (r_is (t := 8) _ _ _ _ _ _ (by decide) (isI_at)) w_X6_83 rfl (by decide) rfl ⟨by decide, by decide⟩ (by decide) (by decide) rfl (Nat.le_of_ble_eq_true rfl) (fun I76 J76 q76 => ?_)
  obtain ⟨rfl, rfl⟩ := rvv q76
  refine pw_aload_n dX6_levels_79 rfl ?_
  refine pw_bipush (v := 7) dX6_levels_80 (by decide) ?_
  refine pw_iconst (v := 5) dX6_levels_82 (by decide) ?_
  refine pw_iconst (v := 3) dX6_levels_83 (by decide) ?_
  refine pw_iconst (v := 2) dX6_levels_84 (by decide) ?_
  refine pw_cVv (ci := 6) (y := yX6_is) (cc := cX6_is) (nL := 5) (ret := none) (rm := { frames := 0, cells := 0, slots := 0, locals := 0 }) dX6_levels_85 (r_is (t := 9) _ _ _ _ _ _ (by decide) (isI_at)) w_X6_83 rfl (by decide) rfl ⟨by decide, by decide⟩ (by decide) (by decide) rfl (Nat.le_of_ble_eq_true rfl) (fun I85 J85 q85 => ?_)
  obtain ⟨rfl, rfl⟩ := rvv q85
  refine pw_aload_n dX6_levels_88 rfl ?_
  refine pw_iconst (v := 3) dX6_levels_89 (by decide) ?_
  refine pw_iconst (v := 5) dX6_levels_90 (by decide) ?_
  refine pw_iconst (v := 0) dX6_levels_91 (by decide) ?_
  refine pw_bipush (v := 12) dX6_levels_92 (by decide) ?_
  refine pw_cVv (ci := 6) (y := yX6_is) (cc := cX6_is) (nL := 5) (ret := none) (rm := { frames := 0, cells := 0, slots := 0, locals := 0 }) dX6_levels_94 (r_is (t := 10) _ _ _ _ _ _ (by decide) (isI_at)) w_X6_83 rfl (by decide) rfl ⟨by decide, by decide⟩ (by decide) (by decide) rfl (Nat.le_of_ble_eq_true rfl) (fun I94 J94 q94 => ?_)
  obtain ⟨rfl, rfl⟩ := rvv q94
  refine pw_aload_n dX6_levels_97 rfl ?_
  refine pw_iconst (v := 5) dX6_levels_98 (by decide) ?_
  refine pw_iconst (v := 0) dX6_levels_99 (by decide) ?_
  refine pw_iconst (v := 0) dX6_levels_100 (by decide) ?_
  refine pw_bipush (v := 16) dX6_levels_101 (by decide) ?_
  refine pw_cVv (ci := 6) (y := yX6_is) (cc := cX6_is) (nL := 5) (ret := none) (rm := { frames := 0, cells := 0, slots := 0, locals := 0 }) dX6_levels_103 (r_is (t := 11) _ _ _ _ _ _ (by decide) (isI_at)) w_X6_83 rfl (by decide) rfl ⟨by decide, by decide⟩ (by decide) (by decide) rfl (Nat.le_of_ble_eq_true rfl) (fun I103 J103 q103 => ?_)
  obtain ⟨rfl, rfl⟩ := rvv q103
  refine pw_aload_n dX6_levels_106 rfl ?_
  refine pw_iconst (v := 0) dX6_levels_107 (by decide) ?_
  refine pw_iconst (v := 4) dX6_levels_108 (by decide) ?_
  refine pw_iconst (v := 0) dX6_levels_109 (by decide) ?_
  refine pw_iconst (v := 0) dX6_levels_110 (by decide) ?_
  refine pw_cVv (ci := 6) (y := yX6_is) (cc := cX6_is) (nL := 5) (ret := none) (rm := { frames := 0, cells := 0, slots := 0, locals := 0 }) dX6_levels_111 (r_is (t := 12) _ _ _ _ _ _ (by decide) (isI_at)) w_X6_83 rfl (by decide) rfl ⟨by decide, by decide⟩ (by decide) (by decide) rfl (Nat.le_of_ble_eq_true rfl) (fun I111 J111 q111 => ?_)
  obtain ⟨rfl, rfl⟩ := rvv q111
  refine pw_aload_n dX6_levels_114 rfl ?_
  refine pw_iconst (v := 5) dX6_levels_115 (by decide) ?_
  refine pw_iconst (v := 0) dX6_levels_116 (by decide) ?_
  refine pw_iconst (v := 0) dX6_levels_117 (by decide) ?_
  refine pw_iconst (v := 5) dX6_levels_118 (by decide) ?_
  refine pw_cVv (ci := 6) (y := yX6_is) (cc := cX6_is) (nL := 5) (ret := none) (rm := { frames := 0, cells := 0, slots := 0, locals := 0 }) dX6_levels_119 (r_is (t := 13) _ _ _ _ _ _ (by decide) (isI_at)) w_X6_83 rfl (by decide) rfl ⟨by decide, by decide⟩ (by decide) (by decide) rfl (Nat.le_of_ble_eq_true rfl) (fun I119 J119 q119 => ?_)
  obtain ⟨rfl, rfl⟩ := rvv q119
  refine pw_aload_n dX6_levels_122 rfl ?_
  refine pw_iconst (v := 1) dX6_levels_123 (by decide) ?_
  refine pw_iconst (v := 4) dX6_levels_124 (by decide) ?_
  refine pw_iconst (v := 1) dX6_levels_125 (by decide) ?_
  refine pw_iconst (v := 0) dX6_levels_126 (by decide) ?_
  refine pw_cVv (ci := 6) (y := yX6_is) (cc := cX6_is) (nL := 5) (ret := none) (rm := { frames := 0, cells := 0, slots := 0, locals := 0 }) dX6_levels_127 (r_is (t := 14) _ _ _ _ _ _ (by decide) (isI_at)) w_X6_83 rfl (by decide) rfl ⟨by decide, by decide⟩ (by decide) (by decide) rfl (Nat.le_of_ble_eq_true rfl) (fun I127 J127 q127 => ?_)
  obtain ⟨rfl, rfl⟩ := rvv q127
  refine pw_aload_n dX6_levels_130 rfl ?_
  refine pw_iconst (v := 5) dX6_levels_131 (by decide) ?_
  refine pw_iconst (v := 0) dX6_levels_132 (by decide) ?_
  refine pw_iconst (v := 0) dX6_levels_133 (by decide) ?_
  refine pw_iconst (v := 5) dX6_levels_134 (by decide) ?_
  refine pw_cVv (ci := 6) (y := yX6_is) (cc := cX6_is) (nL := 5) (ret := none) (rm := { frames := 0, cells := 0, slots := 0, locals := 0 }) dX6_levels_135 (r_is (t := 15) _ _ _ _ _ _ (by decide) (isI_at)) w_X6_83 rfl (by decide) rfl ⟨by decide, by decide⟩ (by decide) (by decide) rfl (Nat.le_of_ble_eq_true rfl) (fun I135 J135 q135 => ?_)
  obtain ⟨rfl, rfl⟩ := rvv q135
  refine pw_aload_n dX6_levels_138 rfl ?_
  refine pw_iconst (v := 1) dX6_levels_139 (by decide) ?_
  refine pw_iconst (v := 2) dX6_levels_140 (by decide) ?_
  refine pw_iconst (v := 1) dX6_levels_141 (by decide) ?_
  refine pw_iconst (v := 0) dX6_levels_142 (by decide) ?_
  refine pw_cVv (ci := 6) (y := yX6_is) (cc := cX6_is) (nL := 5) (ret := none) (rm := { frames := 0, cells := 0, slots := 0, locals := 0 }) dX6_levels_143 (r_is (t := 16) _ _ _ _ _ _ (by decide) (isI_at)) w_X6_83 rfl (by decide) rfl ⟨by decide, by decide⟩ (by decide) (by decide) rfl (Nat.le_of_ble_eq_true rfl) (fun I143 J143 q143 => ?_)
  obtain ⟨rfl, rfl⟩ := rvv q143
  refine pw_aload_n dX6_levels_146 rfl ?_
  refine pw_iconst (v := 5) dX6_levels_147 (by decide) ?_
  refine pw_iconst (v := 0) dX6_levels_148 (by decide) ?_
  refine pw_iconst (v := 0) dX6_levels_149 (by decide) ?_
  refine pw_iconst (v := 1) dX6_levels_150 (by decide) ?_
  refine pw_cVv (ci := 6) (y := yX6_is) (cc := cX6_is) (nL := 5) (ret := none) (rm := { frames := 0, cells := 0, slots := 0, locals := 0 }) dX6_levels_151 (r_is (t := 17) _ _ _ _ _ _ (by decide) (isI_at)) w_X6_83 rfl (by decide) rfl ⟨by decide, by decide⟩ (by decide) (by decide) rfl (Nat.le_of_ble_eq_true rfl) (fun I151 J151 q151 => ?_)
  obtain ⟨rfl, rfl⟩ := rvv q151
  refine pw_aload_n dX6_levels_154 rfl ?_
  refine pw_bipush (v := 12) dX6_levels_155 (by decide) ?_
  refine pw_iconst (v := 0) dX6_levels_157 (by decide) ?_
  refine pw_iconst (v := 0) dX6_levels_158 (by decide) ?_
  refine pw_iconst (v := 0) dX6_levels_159 (by decide) ?_
  refine pw_cVv (ci := 6) (y := yX6_is) (cc := cX6_is) (nL := 5) (ret := none) (rm := { frames := 0, cells := 0, slots := 0, locals := 0 }) dX6_levels_160 (r_is (t := 18) _ _ _ _ _ _ (by decide) (isI_at)) w_X6_83 rfl (by decide) rfl ⟨by decide, by decide⟩ (by decide) (by decide) rfl (Nat.le_of_ble_eq_true rfl) (fun I160 J160 q160 => ?_)
  obtain ⟨rfl, rfl⟩ := rvv q160
  refine pw_aload_n dX6_levels_163 rfl ?_
  refine pw_iconst (v := 0) dX6_levels_164 (by decide) ?_
  refine pw_iconst (v := 2) dX6_levels_165 (by decide) ?_
  refine pw_iconst (v := 0) dX6_levels_166 (by decide) ?_
  refine pw_iconst (v := 0) dX6_levels_167 (by decide) ?_
  refine pw_cVv (ci := 6) (y := yX6_is) (cc := cX6_is) (nL := 5) (ret := none) (rm := { frames := 0, cells := 0, slots := 0, locals := 0 }) dX6_levels_168 (r_is (t := 19) _ _ _ _ _ _ (by decide) (isI_at)) w_X6_83 rfl (by decide) rfl ⟨by decide, by decide⟩ (by decide) (by decide) rfl (Nat.le_of_ble_eq_true rfl) (fun I168 J168 q168 => ?_)
  obtain ⟨rfl, rfl⟩ := rvv q168
  refine pw_aload_n dX6_levels_171 rfl ?_
  refine pw_bipush (v := 8) dX6_levels_172 (by decide) ?_
  refine pw_iconst (v := 2) dX6_levels_174 (by decide) ?_
  refine pw_iconst (v := 0) dX6_levels_175 (by decide) ?_
  refine pw_iconst (v := 0) dX6_levels_176 (by decide) ?_
  refine pw_cVv (ci := 6) (y := yX6_is) (cc := cX6_is) (nL := 5) (ret := none) (rm := { frames := 0, cells := 0, slots := 0, locals := 0 }) dX6_levels_177 (r_is (t := 20) _ _ _ _ _ _ (by decide) (isI_at)) w_X6_83 rfl (by decide) rfl ⟨by decide, by decide⟩ (by decide) (by decide) rfl (Nat.le_of_ble_eq_true rfl) (fun I177 J177 q177 => ?_)
  obtain ⟨rfl, rfl⟩ := rvv q177
  refine pw_aload_n dX6_levels_180 rfl ?_
  refine pw_bipush (v := 13) dX6_levels_181 (by decide) ?_
  refine pw_iconst (v := 0) dX6_levels_183 (by decide) ?_
  refine pw_iconst (v := 0) dX6_levels_184 (by decide) ?_
  refine pw_iconst (v := 0) dX6_levels_185 (by decide) ?_
  refine pw_cVv (ci := 6) (y := yX6_is) (cc := cX6_is) (nL := 5) (ret := none) (rm := { frames := 0, cells := 0, slots := 0, locals := 0 }) dX6_levels_186 (r_is (t := 21) _ _ _ _ _ _ (by decide) (isI_at)) w_X6_83 rfl (by decide) rfl ⟨by decide, by decide⟩ (by decide) (by decide) rfl (Nat.le_of_ble_eq_true rfl) (fun I186 J186 q186 => ?_)
  obtain ⟨rfl, rfl⟩ := rvv q186
  refine pw_vret dX6_levels_189 rfl (by decide) (by decide) ?_
  exact ⟨rfl, rfl, rfl, rfl, rfl⟩
