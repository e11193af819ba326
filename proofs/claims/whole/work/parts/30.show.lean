/-! Program.load -/
def bcI (I : pI) (a : Nat) (k x y z : Int32) : pI := upI (upI (upI (upI I a 0 k) a 1 x) a 2 y) a 3 z
def ldB (xs : List Int32) (I : pI) (i : Nat) : pI := if 4 * i + 3 < xs.length then bcI I (3 + i) (xs.getD (4 * i) 0) (xs.getD (4 * i + 1) 0) (xs.getD (4 * i + 2) 0) (xs.getD (4 * i + 3) 0) else bcI I (3 + i) 13 0 0 0
def ldL (xs : List Int32) : Nat → Nat → pI → pI
  | 0, _, I => I
  | m + 1, i, I => ldL xs m (i + 1) (ldB xs I i)
abbrev m_X4_load : pT := (yX4_load.cls, cX4_load, 4, none, { frames := 1, cells := 0, slots := 0, locals := 24 }, [], none)
set_option maxRecDepth 100000 in
set_option maxHeartbeats 4000000 in
theorem l_load {s : Nat} {nm : String} {xs : List Int32} (hs : pStat[s]? = some (nm, xs)) (hx : xs.length < 1000) (J : pJ) (Q : pQ) : ∀ (m i : Nat) (I : pI), i + m = 40 → Q (.inl none) 84 (ldL xs m i I) J pRs → PW m_X4_load Q 2 [(0, .ref 1), (1, .ref (1000 + s)), (2, .int (nI i))] [] 84 I J pRs 0 0 := by
  intro m
  induction m with
  | zero =>
    intro i I him hQ
    refine pw_iload_n dX4_load_2 rfl ?_
    refine pw_bipush (v := 40) dX4_load_3 (by decide) ?_
    refine pw_icmp_ge (tgt := 70) dX4_load_5 (by decide) (fun h5 => ?_) (fun h5 => ?_)
    · refine pw_vret dX4_load_70 rfl (by decide) (by decide) ?_
      exact hQ
    · exact absurd (nI_le (a := 40) (by omega) (by omega)) h5
  | succ m ih =>
    intro i I him hQ
    refine pw_iload_n dX4_load_2 rfl ?_
    refine pw_bipush (v := 40) dX4_load_3 (by decide) ?_
    refine pw_icmp_ge (tgt := 70) dX4_load_5 (by decide) (fun h5 => ?_) (fun h5 => ?_)
    · exact absurd ((nI_leI (a := 40) (by decide) (by omega)).mp h5) (by omega)
    · refine pw_iconst (v := 4) dX4_load_8 (by decide) ?_
      refine pw_iload_n dX4_load_9 rfl ?_
      refine pw_imul dX4_load_10 ?_
      have e40 : (4 : Int32) * nI i = nI (4 * i) := by rw [show (4 : Int32) = nI 4 by decide, pk_mul]
      have e41 : nI (4 * i) + (1 : Int32) = nI (4 * i + 1) := nI_1 _
      have e42 : nI (4 * i) + (2 : Int32) = nI (4 * i + 2) := by rw [show (2 : Int32) = nI 2 by decide, nI_add]
      have e43 : nI (4 * i) + (3 : Int32) = nI (4 * i + 3) := by rw [show (3 : Int32) = nI 3 by decide, nI_add]
      rw [e40]
      refine pw_istore_n dX4_load_11 (by decide) ?_
      refine pw_iload_n dX4_load_12 rfl ?_
      refine pw_iconst (v := 3) dX4_load_13 (by decide) ?_
      refine pw_iadd dX4_load_14 ?_
      rw [e43]
      refine pw_aload_n dX4_load_15 rfl ?_
      refine pw_slen dX4_load_16 hs rfl ?_
      refine pw_icmp_ge (tgt := 50) dX4_load_17 (by decide) (fun h17 => ?_) (fun h17 => ?_)
      · refine pw_aload_n dX4_load_50 rfl ?_
        refine pw_getr dX4_load_51 fl_X4_11 rfl rfl (by decide) (by decide) rfl ?_
        refine pw_iload_n dX4_load_54 rfl ?_
        refine pw_aaldI (x := 3 + i) dX4_load_55 rfl (by decide) (by decide) (vp_in_nI (by omega) (by decide)) (by rw [nI_clamp (by omega)]; rfl) ?_
        refine pw_bipush (v := 13) dX4_load_56 (by decide) ?_
        refine pw_iconst (v := 0) dX4_load_58 (by decide) ?_
        refine pw_iconst (v := 0) dX4_load_59 (by decide) ?_
        refine pw_iconst (v := 0) dX4_load_60 (by decide) ?_
        refine pw_cVv (ci := 2) (y := yX2_become) (cc := cX2_become) (nL := 5) (ret := none) (rm := { frames := 0, cells := 0, slots := 0, locals := 0 }) dX4_load_61 (c_become _ _ _ _ _ _ (pS_ins (by omega)) (by omega)) w_X4_18 (pS_ins (by omega)) (by omega) rfl ⟨by decide, by decide⟩ (by decide) (by decide) rfl (Nat.le_of_ble_eq_true rfl) (fun I61 J61 q61 => ?_)
        obtain ⟨rfl, rfl⟩ := rvv q61
        refine pw_iinc (v := nI (i + 1)) dX4_load_64 rfl (by rw [nI_succ]; rfl) (by decide) ?_
        refine pw_goto (tgt := 2) dX4_load_67 (by decide) ?_
        refine pw_loc (L' := [(0, .ref 1), (1, .ref (1000 + s)), (2, .int (nI (i + 1)))]) rfl ?_
        exact ih (i + 1) _ (by omega) (by rw [ldL, ldB, if_neg (fun z => absurd ((nI_leI (by omega) (by omega)).mp h17) (by omega))] at hQ; exact hQ)
      · have hlt : 4 * i + 3 < xs.length := Nat.lt_of_not_le (fun z => h17 (nI_le z (by omega)))
        refine pw_aload_n dX4_load_20 rfl ?_
        refine pw_getr dX4_load_21 fl_X4_11 rfl rfl (by decide) (by decide) rfl ?_
        refine pw_iload_n dX4_load_24 rfl ?_
        refine pw_aaldI (x := 3 + i) dX4_load_25 rfl (by decide) (by decide) (vp_in_nI (by omega) (by decide)) (by rw [nI_clamp (by omega)]; rfl) ?_
        refine pw_aload_n dX4_load_26 rfl ?_
        refine pw_iload_n dX4_load_27 rfl ?_
        refine pw_sald dX4_load_28 hs (vp_in_nI (by omega) (by omega)) ?_
        refine pw_aload_n dX4_load_29 rfl ?_
        refine pw_iload_n dX4_load_30 rfl ?_
        refine pw_iconst (v := 1) dX4_load_31 (by decide) ?_
        refine pw_iadd dX4_load_32 ?_
        rw [e41]
        refine pw_sald dX4_load_33 hs (vp_in_nI (by omega) (by omega)) ?_
        refine pw_aload_n dX4_load_34 rfl ?_
        refine pw_iload_n dX4_load_35 rfl ?_
        refine pw_iconst (v := 2) dX4_load_36 (by decide) ?_
        refine pw_iadd dX4_load_37 ?_
        rw [e42]
        refine pw_sald dX4_load_38 hs (vp_in_nI (by omega) (by omega)) ?_
        refine pw_aload_n dX4_load_39 rfl ?_
        refine pw_iload_n dX4_load_40 rfl ?_
        refine pw_iconst (v := 3) dX4_load_41 (by decide) ?_
        refine pw_iadd dX4_load_42 ?_
        rw [e43]
        refine pw_sald dX4_load_43 hs (vp_in_nI (by omega) (by omega)) ?_
        rw [nI_clamp (show 4 * i < 2 ^ 31 by omega), nI_clamp (show 4 * i + 1 < 2 ^ 31 by omega), nI_clamp (show 4 * i + 2 < 2 ^ 31 by omega), nI_clamp (show 4 * i + 3 < 2 ^ 31 by omega)]
        refine pw_cVv (ci := 2) (y := yX2_become) (cc := cX2_become) (nL := 5) (ret := none) (rm := { frames := 0, cells := 0, slots := 0, locals := 0 }) dX4_load_44 (c_become _ _ _ _ _ _ (pS_ins (by omega)) (by omega)) w_X4_18 (pS_ins (by omega)) (by omega) rfl ⟨by decide, by decide⟩ (by decide) (by decide) rfl (Nat.le_of_ble_eq_true rfl) (fun I44 J44 q44 => ?_)
        obtain ⟨rfl, rfl⟩ := rvv q44
        refine pw_goto (tgt := 64) dX4_load_47 (by decide) ?_
        refine pw_iinc (v := nI (i + 1)) dX4_load_64 rfl (by rw [nI_succ]; rfl) (by decide) ?_
        refine pw_goto (tgt := 2) dX4_load_67 (by decide) ?_
        refine pw_loc (L' := [(0, .ref 1), (1, .ref (1000 + s)), (2, .int (nI (i + 1)))]) rfl ?_
        exact ih (i + 1) _ (by omega) (by rw [ldL, ldB, if_pos (Nat.lt_of_not_le (fun z => h17 (nI_le z (by omega))))] at hQ; exact hQ)
set_option maxRecDepth 100000 in
set_option maxHeartbeats 4000000 in
theorem c_load {s : Nat} {nm : String} {xs : List Int32} (I : pI) (J : pJ) (hs : pStat[s]? = some (nm, xs)) (hx : xs.length < 1000) : pMet yX4_load (pws yX4_load cX4_load 4 none) { frames := 1, cells := 0, slots := 0, locals := 24 } [.ref 1, .ref (1000 + s)] 84 I J pRs (pOv (fun I' J' => I' = ldL xs 40 0 I ∧ J' = J)) := by
  refine pMet_of (by decide) (Nat.le_of_ble_eq_true rfl) ?_
  refine pw_iconst (v := 0) dX4_load_0 (by decide) ?_
  refine pw_istore_n dX4_load_1 (by decide) ?_
  refine pw_loc (L' := [(0, .ref 1), (1, .ref (1000 + s)), (2, .int (nI 0))]) rfl ?_
  exact l_load hs hx J _ 40 0 _ (by decide) ⟨rfl, rfl, rfl, rfl, rfl⟩
/-- which static array an exhibit's instructions are -/
def insOf (x : Int32) : Nat := if x = 2 then 2 else if x = 3 then 3 else if x = 4 then 4 else if x = 5 then 5 else 1
def insXs (x : Int32) : List Int32 := (pStat.getD (insOf x) ("", [])).2
theorem insOf_at (x : Int32) : ∃ nm, pStat[insOf x]? = some (nm, insXs x) := by
  unfold insXs insOf
  repeat' split
  all_goals exact ⟨_, rfl⟩
set_option maxRecDepth 100000 in
theorem insXs_len (x : Int32) : (insXs x).length < 1000 := by
  unfold insXs insOf
  repeat' split
  all_goals decide
set_option maxRecDepth 100000 in
set_option maxHeartbeats 4000000 in
theorem c_instructionsOf (x : Int32) (I : pI) (J : pJ) : pMet yX5_instructionsOf (pws yX5_instructionsOf cX5_instructionsOf 1 (some (.array .int))) { frames := 0, cells := 0, slots := 0, locals := 0 } [.int x] 84 I J pRs (pOr (fun r I' J' => r = 1000 + insOf x ∧ I' = I ∧ J' = J)) := by
  refine pMet_of (by decide) (Nat.le_of_ble_eq_true rfl) ?_
  refine pw_iload_n dX5_instructionsOf_0 rfl ?_
  refine pw_tsw dX5_instructionsOf_1 (fun i1 hi1 s1 => ?_) (fun o1 => ?_)
  · rcases (show i1 = 0 ∨ i1 = 1 ∨ i1 = 2 ∨ i1 = 3 by omega) with rfl | rfl | rfl | rfl
    · replace s1 := s1.trans (show _ = (2 : Int32) by decide)
      refine ⟨_, 32, rfl, by decide, ?_⟩
      refine pw_gets (i := 2) dX5_instructionsOf_32 rfl gs_172 ?_
      refine pw_aret dX5_instructionsOf_35 rfl (Or.inr ⟨_, rfl⟩) (by decide) (by decide) ?_
      exact ⟨_, rfl, rfl, rfl, by first | (simp [insOf, s1]; done) | simp [insOf, n2, n3, n4, n5], rfl, rfl⟩
    · replace s1 := s1.trans (show _ = (3 : Int32) by decide)
      refine ⟨_, 36, rfl, by decide, ?_⟩
      refine pw_gets (i := 3) dX5_instructionsOf_36 rfl gs_175 ?_
      refine pw_aret dX5_instructionsOf_39 rfl (Or.inr ⟨_, rfl⟩) (by decide) (by decide) ?_
      exact ⟨_, rfl, rfl, rfl, by first | (simp [insOf, s1]; done) | simp [insOf, n2, n3, n4, n5], rfl, rfl⟩
    · replace s1 := s1.trans (show _ = (4 : Int32) by decide)
      refine ⟨_, 40, rfl, by decide, ?_⟩
      refine pw_gets (i := 4) dX5_instructionsOf_40 rfl gs_178 ?_
      refine pw_aret dX5_instructionsOf_43 rfl (Or.inr ⟨_, rfl⟩) (by decide) (by decide) ?_
      exact ⟨_, rfl, rfl, rfl, by first | (simp [insOf, s1]; done) | simp [insOf, n2, n3, n4, n5], rfl, rfl⟩
    · replace s1 := s1.trans (show _ = (5 : Int32) by decide)
      refine ⟨_, 44, rfl, by decide, ?_⟩
      refine pw_gets (i := 5) dX5_instructionsOf_44 rfl gs_181 ?_
      refine pw_aret dX5_instructionsOf_47 rfl (Or.inr ⟨_, rfl⟩) (by decide) (by decide) ?_
      exact ⟨_, rfl, rfl, rfl, by first | (simp [insOf, s1]; done) | simp [insOf, n2, n3, n4, n5], rfl, rfl⟩
  · refine ⟨48, by decide, ?_⟩
    have n2 : ¬ x = 2 := fun e => by rw [e] at o1; revert o1; decide
    have n3 : ¬ x = 3 := fun e => by rw [e] at o1; revert o1; decide
    have n4 : ¬ x = 4 := fun e => by rw [e] at o1; revert o1; decide
    have n5 : ¬ x = 5 := fun e => by rw [e] at o1; revert o1; decide
    refine pw_gets (i := 1) dX5_instructionsOf_48 rfl gs_184 ?_
    refine pw_aret dX5_instructionsOf_51 rfl (Or.inr ⟨_, rfl⟩) (by decide) (by decide) ?_
    exact ⟨_, rfl, rfl, rfl, by first | (simp [insOf, s1]; done) | simp [insOf, n2, n3, n4, n5], rfl, rfl⟩
def opLim : List Int32 := (pStat.getD 0 ("", [])).2
abbrev opF (k j : Nat) (v : Int32) : Prop := opLim.getD (3 * k + j) 0 = 0 ∨ (0 ≤ v ∧ v < opLim.getD (3 * k + j) 0)
set_option maxRecDepth 100000 in
set_option maxHeartbeats 4000000 in
theorem c_operandFits {k j : Nat} (v : Int32) (I : pI) (J : pJ) (hk : k < 14) (hj : j < 3) : pMet yX5_operandFits (pws yX5_operandFits cX5_operandFits 4 (some .boolean)) { frames := 0, cells := 0, slots := 0, locals := 0 } [.int (nI k), .int (nI j), .int v] 84 I J pRs (pOi (fun r I' J' => r = (if opLim.getD (3 * k + j) 0 = 0 ∨ (0 ≤ v ∧ v < opLim.getD (3 * k + j) 0) then 1 else 0) ∧ I' = I ∧ J' = J)) := by
  refine pMet_of (by decide) (Nat.le_of_ble_eq_true rfl) ?_
  refine pw_gets (i := 0) dX5_operandFits_0 rfl gs_169 ?_
  refine pw_iconst (v := 3) dX5_operandFits_3 (by decide) ?_
  refine pw_iload_n dX5_operandFits_4 rfl ?_
  refine pw_imul dX5_operandFits_5 ?_
  refine pw_iload_n dX5_operandFits_6 rfl ?_
  refine pw_iadd dX5_operandFits_7 ?_
  have e3 : (3 : Int32) * nI k + nI j = nI (3 * k + j) := by rw [show (3 : Int32) = nI 3 by decide, pk_mul, nI_add]
  rw [e3]
  refine pw_sald (nm := "OPERAND_LIMITS") (xs := opLim) dX5_operandFits_8 rfl (vp_in_nI (by show 3 * k + j < 42; omega) (by decide)) ?_
  rw [nI_clamp (show 3 * k + j < 2 ^ 31 by omega)]
  refine pw_istore_n dX5_operandFits_9 (by decide) ?_
  refine pw_iload_n dX5_operandFits_10 rfl ?_
  refine pw_if_eq (tgt := 23) dX5_operandFits_11 (by decide) (fun h11 => ?_) (fun h11 => ?_)
  · refine pw_iconst (v := 1) dX5_operandFits_23 (by decide) ?_
    refine pw_goto (tgt := 28) dX5_operandFits_24 (by decide) ?_
    refine pw_iret dX5_operandFits_28 rfl rfl (by decide) (by decide) ?_
    exact ⟨_, rfl, rfl, rfl, by rw [if_pos (Or.inl h11)], rfl, rfl⟩
  · refine pw_iload_n dX5_operandFits_14 rfl ?_
    refine pw_if_lt (tgt := 27) dX5_operandFits_15 (by decide) (fun h15 => ?_) (fun h15 => ?_)
    · refine pw_iconst (v := 0) dX5_operandFits_27 (by decide) ?_
      refine pw_iret dX5_operandFits_28 rfl rfl (by decide) (by decide) ?_
      exact ⟨_, rfl, rfl, rfl, by rw [if_neg (fun z => z.elim h11 (fun z => absurd h15 (Int32.not_lt.mpr z.1)))], rfl, rfl⟩
    · refine pw_iload_n dX5_operandFits_18 rfl ?_
      refine pw_iload_n dX5_operandFits_19 rfl ?_
      refine pw_icmp_ge (tgt := 27) dX5_operandFits_20 (by decide) (fun h20 => ?_) (fun h20 => ?_)
      · refine pw_iconst (v := 0) dX5_operandFits_27 (by decide) ?_
        refine pw_iret dX5_operandFits_28 rfl rfl (by decide) (by decide) ?_
        exact ⟨_, rfl, rfl, rfl, by rw [if_neg (fun z => z.elim h11 (fun z => absurd z.2 (Int32.not_lt.mpr h20)))], rfl, rfl⟩
      · refine pw_iconst (v := 1) dX5_operandFits_23 (by decide) ?_
        refine pw_goto (tgt := 28) dX5_operandFits_24 (by decide) ?_
        refine pw_iret dX5_operandFits_28 rfl rfl (by decide) (by decide) ?_
        exact ⟨_, rfl, rfl, rfl, by rw [if_pos (Or.inr ⟨Int32.not_lt.mp h15, Int32.not_le.mp h20⟩)], rfl, rfl⟩
def shI (I : pI) (x n : Int32) : pI := clI (ldL (insXs x) 40 0 (upI I 0 3 x)) 43 n
set_option maxRecDepth 100000 in
set_option maxHeartbeats 4000000 in
theorem c_show (x n : Int32) (I : pI) (J : pJ) : pMet yX5_show (pws yX5_show cX5_show 3 none) { frames := 3, cells := 0, slots := 0, locals := 62 } [.ref 0, .int x, .int n] 84 I J pRs (pOv (fun I' J' => I' = shI I x n ∧ J' = J)) := by
  refine pMet_of (by decide) (Nat.le_of_ble_eq_true rfl) ?_
  refine pw_aload_n dX5_show_0 rfl ?_
  refine pw_iload_n dX5_show_1 rfl ?_
  refine pw_puti dX5_show_2 fl_X5_63 rfl rfl rfl rfl rfl (by decide) (by decide) ?_
  refine pw_aload_n dX5_show_5 rfl ?_
  refine pw_getr dX5_show_6 fl_X5_10 rfl rfl (by decide) (by decide) rfl ?_
  refine pw_iload_n dX5_show_9 rfl ?_
  refine pw_cSr (y := yX5_instructionsOf) (cc := cX5_instructionsOf) (nL := 1) (ret := (some (.array .int))) (rm := { frames := 0, cells := 0, slots := 0, locals := 0 }) dX5_show_10 (c_instructionsOf _ _ _) w_X5_67 rfl ⟨by decide, by decide⟩ (by decide) (by decide) rfl (Nat.le_of_ble_eq_true rfl) (fun x10 I10 J10 q10 => ?_)
  obtain ⟨rfl, rfl, rfl⟩ := rvq q10
  refine pw_cVv (ci := 4) (y := yX4_load) (cc := cX4_load) (nL := 4) (ret := none) (rm := { frames := 1, cells := 0, slots := 0, locals := 24 }) dX5_show_13 (c_load _ _ (insOf_at x).choose_spec (insXs_len x)) w_X5_71 rfl (by decide) rfl ⟨by decide, by decide⟩ (by decide) (by decide) rfl (Nat.le_of_ble_eq_true rfl) (fun I13 J13 q13 => ?_)
  obtain ⟨rfl, rfl⟩ := rvv q13
  refine pw_aload_n dX5_show_16 rfl ?_
  refine pw_getr dX5_show_17 fl_X5_19 rfl rfl (by decide) (by decide) rfl ?_
  refine pw_iload_n dX5_show_20 rfl ?_
  refine pw_cVv (ci := 1) (y := yX1_clear) (cc := cX1_clear) (nL := 3) (ret := none) (rm := { frames := 2, cells := 0, slots := 0, locals := 40 }) dX5_show_21 (c_clear _ _ _ (Or.inl rfl)) w_X5_163 rfl (by decide) rfl ⟨by decide, by decide⟩ (by decide) (by decide) rfl (Nat.le_of_ble_eq_true rfl) (fun I21 J21 q21 => ?_)
  obtain ⟨rfl, rfl⟩ := rvv q21
  refine pw_vret dX5_show_24 rfl (by decide) (by decide) ?_
  exact ⟨rfl, rfl, rfl, rfl, rfl⟩
set_option maxRecDepth 100000 in
set_option maxHeartbeats 4000000 in
theorem c_mend (I : pI) (J : pJ) : pMet yX5_mend (pws yX5_mend cX5_mend 1 none) { frames := 2, cells := 0, slots := 0, locals := 47 } [.ref 0] 84 I J pRs (pOv (fun I' J' => I' = ldL (insXs (I 0 3)) 40 0 I ∧ J' = J)) := by
  refine pMet_of (by decide) (Nat.le_of_ble_eq_true rfl) ?_
  refine pw_aload_n dX5_mend_0 rfl ?_
  refine pw_getr dX5_mend_1 fl_X5_10 rfl rfl (by decide) (by decide) rfl ?_
  refine pw_aload_n dX5_mend_4 rfl ?_
  refine pw_geti dX5_mend_5 fl_X5_63 rfl rfl (by decide) (by decide) ?_
  refine pw_cSr (y := yX5_instructionsOf) (cc := cX5_instructionsOf) (nL := 1) (ret := (some (.array .int))) (rm := { frames := 0, cells := 0, slots := 0, locals := 0 }) dX5_mend_8 (c_instructionsOf _ _ _) w_X5_67 rfl ⟨by decide, by decide⟩ (by decide) (by decide) rfl (Nat.le_of_ble_eq_true rfl) (fun x8 I8 J8 q8 => ?_)
  obtain ⟨rfl, rfl, rfl⟩ := rvq q8
  refine pw_cVv (ci := 4) (y := yX4_load) (cc := cX4_load) (nL := 4) (ret := none) (rm := { frames := 1, cells := 0, slots := 0, locals := 24 }) dX5_mend_11 (c_load _ _ (insOf_at _).choose_spec (insXs_len _)) w_X5_71 rfl (by decide) rfl ⟨by decide, by decide⟩ (by decide) (by decide) rfl (Nat.le_of_ble_eq_true rfl) (fun I11 J11 q11 => ?_)
  obtain ⟨rfl, rfl⟩ := rvv q11
  refine pw_vret dX5_mend_14 rfl (by decide) (by decide) ?_
  exact ⟨rfl, rfl, rfl, rfl, rfl⟩
