/-! contracts while the world is being made -/
def pOv_64 (post : pI → pJ → Prop) : pQ := fun o n' I' J' P' => o = .inl none ∧ n' = 64 ∧ P' = pRs ∧ post I' J'
def pOr_64 (post : Nat → pI → pJ → Prop) : pQ := fun o n' I' J' P' => ∃ r : Nat, o = .inl (some (.ref r)) ∧ n' = 64 ∧ P' = pRs ∧ post r I' J'
section Rows
variable {M : pT} {Q : pQ} {pc : Nat} {L : List (Nat × Value)} {st : List Value} {I : pI} {J : pJ} {kc ks : Nat}
variable {y : MethodName} {cc : ByteArray} {nL : Nat} {ret : Option FieldType} {rm : Room} {as st0 : List Value} {a idx ci : Nat}
theorem pw_cVv_64 {post : pI → pJ → Prop} (hd : decode (pT.cc M) pc = .ok (.invokevirtual idx, 3)) (hM : pMet y (pws y cc nL ret) rm (.ref a :: as) 64 I J pRs (pOv_64 post)) (hw : pWV (pT.own M) idx ci y cc nL ret as.length = true) (hk : (pS a).1 = ci) (ha : a < 64) (hh : pT.hh M = []) (hR : rm.frames + 1 ≤ (pT.R M).frames ∧ 8 + (nL + 11) + rm.locals ≤ (pT.R M).locals) (hc : kc + rm.cells ≤ (pT.R M).cells) (hs : ks + rm.slots ≤ (pT.R M).slots) (h0 : st0 = as.reverse ++ .ref a :: st) (h8 : (st.map fun v => v.category).sum ≤ 8) (kk : ∀ I' J', post I' J' → PW M Q (pc + 3) L st 64 I' J' pRs (kc + rm.cells) (ks + rm.slots)) : PW M Q pc L st0 64 I J pRs kc ks := by
  refine pw_callV hd hM hw hk ha (by decide) hh hR hc hs h0 h8 (fun E n' I' J' P' h => by obtain ⟨h, -⟩ := h; cases h) (fun r n' I' J' P' h => ?_)
  obtain ⟨h1, rfl, rfl, h2⟩ := h
  cases h1
  exact kk I' J' h2
theorem pw_cSr_64 {post : Nat → pI → pJ → Prop} (hd : decode (pT.cc M) pc = .ok (.invokestatic idx, 3)) (hM : pMet y (pws y cc nL ret) rm as 64 I J pRs (pOr_64 post)) (hw : pWS (pT.own M) idx y cc nL ret as.length = true) (hh : pT.hh M = []) (hR : rm.frames + 1 ≤ (pT.R M).frames ∧ 8 + (nL + 11) + rm.locals ≤ (pT.R M).locals) (hc : kc + rm.cells ≤ (pT.R M).cells) (hs : ks + rm.slots ≤ (pT.R M).slots) (h0 : st0 = as.reverse ++ st) (h8 : (st.map fun v => v.category).sum ≤ 8) (kk : ∀ x I' J', post x I' J' → PW M Q (pc + 3) L (.ref x :: st) 64 I' J' pRs (kc + rm.cells) (ks + rm.slots)) : PW M Q pc L st0 64 I J pRs kc ks := by
  refine pw_callS hd hM hw hh hR hc hs h0 h8 (fun E n' I' J' P' h => by obtain ⟨_, h, -⟩ := h; cases h) (fun r n' I' J' P' h => ?_)
  obtain ⟨x, h1, rfl, rfl, h2⟩ := h
  cases h1
  exact kk x I' J' h2
end Rows
set_option maxRecDepth 100000 in
set_option maxHeartbeats 4000000 in
theorem c_become_64 {a : Nat} (k x y z : Int32) (I : pI) (J : pJ) (hk : (pS a).1 = 2) (ha : a < 64) : pMet yX2_become (pws yX2_become cX2_become 5 none) { frames := 0, cells := 0, slots := 0, locals := 0 } [.ref a, .int k, .int x, .int y, .int z] 64 I J pRs (pOv_64 (fun I' J' => I' = upI (upI (upI (upI I a 0 k) a 1 x) a 2 y) a 3 z ∧ J' = J)) := by
  refine pMet_of (by decide) (Nat.le_of_ble_eq_true rfl) ?_
  refine pw_aload_n dX2_become_0 rfl ?_
  refine pw_iload_n dX2_become_1 rfl ?_
  refine pw_puti dX2_become_2 fl_X2_7 rfl rfl rfl rfl hk ha (by decide) ?_
  refine pw_aload_n dX2_become_5 rfl ?_
  refine pw_iload_n dX2_become_6 rfl ?_
  refine pw_puti dX2_become_7 fl_X2_13 rfl rfl rfl rfl hk ha (by decide) ?_
  refine pw_aload_n dX2_become_10 rfl ?_
  refine pw_iload_n dX2_become_11 rfl ?_
  refine pw_puti dX2_become_12 fl_X2_16 rfl rfl rfl rfl hk ha (by decide) ?_
  refine pw_aload_n dX2_become_15 rfl ?_
  refine pw_iload dX2_become_16 rfl ?_
  refine pw_puti dX2_become_18 fl_X2_19 rfl rfl rfl rfl hk ha (by decide) ?_
  refine pw_vret dX2_become_21 rfl (by decide) (by decide) ?_
  exact ⟨rfl, rfl, rfl, rfl, rfl⟩
set_option maxRecDepth 100000 in
set_option maxHeartbeats 4000000 in
theorem c_end_64 {a : Nat} (I : pI) (J : pJ) (hk : (pS a).1 = 0) (ha : a < 64) : pMet yX0_end (pws yX0_end cX0_end 1 none) { frames := 0, cells := 0, slots := 0, locals := 0 } [.ref a] 64 I J pRs (pOv_64 (fun I' J' => I' = upI (upI (upI (upI I a 0 0) a 1 0) a 2 0) a 3 0 ∧ J' = J)) := by
  refine pMet_of (by decide) (Nat.le_of_ble_eq_true rfl) ?_
  refine pw_aload_n dX0_end_0 rfl ?_
  refine pw_iconst (v := 0) dX0_end_1 (by decide) ?_
  refine pw_puti dX0_end_2 fl_X0_21 rfl rfl rfl rfl hk ha (by decide) ?_
  refine pw_aload_n dX0_end_5 rfl ?_
  refine pw_iconst (v := 0) dX0_end_6 (by decide) ?_
  refine pw_puti dX0_end_7 fl_X0_24 rfl rfl rfl rfl hk ha (by decide) ?_
  refine pw_aload_n dX0_end_10 rfl ?_
  refine pw_iconst (v := 0) dX0_end_11 (by decide) ?_
  refine pw_puti dX0_end_12 fl_X0_31 rfl rfl rfl rfl hk ha (by decide) ?_
  refine pw_aload_n dX0_end_15 rfl ?_
  refine pw_iconst (v := 0) dX0_end_16 (by decide) ?_
  refine pw_puti dX0_end_17 fl_X0_34 rfl rfl rfl rfl hk ha (by decide) ?_
  refine pw_vret dX0_end_20 rfl (by decide) (by decide) ?_
  exact ⟨rfl, rfl, rfl, rfl, rfl⟩
set_option maxRecDepth 100000 in
set_option maxHeartbeats 4000000 in
theorem c_forget_64 {a : Nat} (I : pI) (J : pJ) (hk : (pS a).1 = 0) (ha : a < 64) : pMet yX0_forget (pws yX0_forget cX0_forget 1 none) { frames := 1, cells := 0, slots := 0, locals := 20 } [.ref a] 64 I J pRs (pOv_64 (fun I' J' => I' = upI (upI (upI (upI (upI (upI I a 0 0) a 1 0) a 2 0) a 3 0) a 4 0) a 5 0 ∧ J' = J)) := by
  refine pMet_of (by decide) (Nat.le_of_ble_eq_true rfl) ?_
  refine pw_aload_n dX0_forget_0 rfl ?_
  refine pw_cVv_64 (ci := 0) (y := yX0_end) (cc := cX0_end) (nL := 1) (ret := none) (rm := { frames := 0, cells := 0, slots := 0, locals := 0 }) dX0_forget_1 (c_end_64 _ _ hk ha) w_X0_9 hk ha rfl ⟨by decide, by decide⟩ (by decide) (by decide) rfl (Nat.le_of_ble_eq_true rfl) (fun I1 J1 q1 => ?_)
  obtain ⟨rfl, rfl⟩ := q1
  refine pw_aload_n dX0_forget_4 rfl ?_
  refine pw_iconst (v := 0) dX0_forget_5 (by decide) ?_
  refine pw_puti dX0_forget_6 fl_X0_14 rfl rfl rfl rfl hk ha (by decide) ?_
  refine pw_aload_n dX0_forget_9 rfl ?_
  refine pw_iconst (v := 0) dX0_forget_10 (by decide) ?_
  refine pw_puti dX0_forget_11 fl_X0_18 rfl rfl rfl rfl hk ha (by decide) ?_
  refine pw_vret dX0_forget_14 rfl (by decide) (by decide) ?_
  exact ⟨rfl, rfl, rfl, rfl, rfl⟩
set_option maxRecDepth 100000 in
set_option maxHeartbeats 4000000 in
theorem c_clear_64 {h : Nat} (n : Int32) (I : pI) (J : pJ) (hh : h = 43 ∨ h = 50) : pMet yX1_clear (pws yX1_clear cX1_clear 3 none) { frames := 2, cells := 0, slots := 0, locals := 40 } [.ref h, .int n] 64 I J pRs (pOv_64 (fun I' J' => I' = clI I h n ∧ J' = J)) := by
  refine pMet_of (by decide) (Nat.le_of_ble_eq_true rfl) ?_
  refine pw_aload_n dX1_clear_0 rfl ?_
  refine pw_iload_n dX1_clear_1 rfl ?_
  refine pw_puti dX1_clear_2 fl_X1_18 rfl rfl rfl rfl (hl_h hh) (by omega) (by decide) ?_
  refine pw_aload_n dX1_clear_5 rfl ?_
  refine pw_iconst (v := 0) dX1_clear_6 (by decide) ?_
  refine pw_puti dX1_clear_7 fl_X1_22 rfl rfl rfl rfl (hl_h hh) (by omega) (by decide) ?_
  refine pw_iconst (v := 0) dX1_clear_10 (by decide) ?_
  refine pw_istore_n dX1_clear_11 (by decide) ?_
  refine pw_iload_n dX1_clear_12 rfl ?_
  refine pw_iconst (v := 3) dX1_clear_13 (by decide) ?_
  refine pw_icmp_ge (tgt := 32) dX1_clear_14 (by decide) (fun h14 => ?_) (fun h14 => ?_)
  · exact absurd h14 (by decide)
  · refine pw_aload_n dX1_clear_17 rfl ?_
    refine pw_getr dX1_clear_18 fl_X1_11 rfl (hl_h hh) (by omega) (by decide) (hl_pr hh) ?_
    refine pw_iload_n dX1_clear_21 rfl ?_
    refine pw_aaldC (x := h + 2 + 0) dX1_clear_22 (hl_ar hh) (by omega) (by decide) (by unfold vp_in; decide) (by rcases hh with rfl | rfl <;> rfl) ?_
    refine pw_cVv_64 (ci := 0) (y := yX0_forget) (cc := cX0_forget) (nL := 1) (ret := none) (rm := { frames := 1, cells := 0, slots := 0, locals := 20 }) dX1_clear_23 (c_forget_64 _ _ (hl_c hh (by decide)) (by omega)) w_X1_25 (hl_c hh (by decide)) (by omega) rfl ⟨by decide, by decide⟩ (by decide) (by decide) rfl (Nat.le_of_ble_eq_true rfl) (fun I23 J23 q23 => ?_)
    obtain ⟨rfl, rfl⟩ := rvv q23
    refine pw_iinc (v := 1) dX1_clear_26 rfl (by decide) (by decide) ?_
    refine pw_goto (tgt := 12) dX1_clear_29 (by decide) ?_
    refine pw_iload_n dX1_clear_12 rfl ?_
    refine pw_iconst (v := 3) dX1_clear_13 (by decide) ?_
    refine pw_icmp_ge (tgt := 32) dX1_clear_14 (by decide) (fun h14_1 => ?_) (fun h14_1 => ?_)
    · exact absurd h14_1 (by decide)
    · refine pw_aload_n dX1_clear_17 rfl ?_
      refine pw_getr dX1_clear_18 fl_X1_11 rfl (hl_h hh) (by omega) (by decide) (hl_pr hh) ?_
      refine pw_iload_n dX1_clear_21 rfl ?_
      refine pw_aaldC (x := h + 2 + 1) dX1_clear_22 (hl_ar hh) (by omega) (by decide) (by unfold vp_in; decide) (by rcases hh with rfl | rfl <;> rfl) ?_
      refine pw_cVv_64 (ci := 0) (y := yX0_forget) (cc := cX0_forget) (nL := 1) (ret := none) (rm := { frames := 1, cells := 0, slots := 0, locals := 20 }) dX1_clear_23 (c_forget_64 _ _ (hl_c hh (by decide)) (by omega)) w_X1_25 (hl_c hh (by decide)) (by omega) rfl ⟨by decide, by decide⟩ (by decide) (by decide) rfl (Nat.le_of_ble_eq_true rfl) (fun I23_1 J23_1 q23_1 => ?_)
      obtain ⟨rfl, rfl⟩ := rvv q23_1
      refine pw_iinc (v := 2) dX1_clear_26 rfl (by decide) (by decide) ?_
      refine pw_goto (tgt := 12) dX1_clear_29 (by decide) ?_
      refine pw_iload_n dX1_clear_12 rfl ?_
      refine pw_iconst (v := 3) dX1_clear_13 (by decide) ?_
      refine pw_icmp_ge (tgt := 32) dX1_clear_14 (by decide) (fun h14_2 => ?_) (fun h14_2 => ?_)
      · exact absurd h14_2 (by decide)
      · refine pw_aload_n dX1_clear_17 rfl ?_
        refine pw_getr dX1_clear_18 fl_X1_11 rfl (hl_h hh) (by omega) (by decide) (hl_pr hh) ?_
        refine pw_iload_n dX1_clear_21 rfl ?_
        refine pw_aaldC (x := h + 2 + 2) dX1_clear_22 (hl_ar hh) (by omega) (by decide) (by unfold vp_in; decide) (by rcases hh with rfl | rfl <;> rfl) ?_
        refine pw_cVv_64 (ci := 0) (y := yX0_forget) (cc := cX0_forget) (nL := 1) (ret := none) (rm := { frames := 1, cells := 0, slots := 0, locals := 20 }) dX1_clear_23 (c_forget_64 _ _ (hl_c hh (by decide)) (by omega)) w_X1_25 (hl_c hh (by decide)) (by omega) rfl ⟨by decide, by decide⟩ (by decide) (by decide) rfl (Nat.le_of_ble_eq_true rfl) (fun I23_2 J23_2 q23_2 => ?_)
        obtain ⟨rfl, rfl⟩ := rvv q23_2
        refine pw_iinc (v := 3) dX1_clear_26 rfl (by decide) (by decide) ?_
        refine pw_goto (tgt := 12) dX1_clear_29 (by decide) ?_
        refine pw_iload_n dX1_clear_12 rfl ?_
        refine pw_iconst (v := 3) dX1_clear_13 (by decide) ?_
        refine pw_icmp_ge (tgt := 32) dX1_clear_14 (by decide) (fun h14_3 => ?_) (fun h14_3 => ?_)
        · refine pw_vret dX1_clear_32 rfl (by decide) (by decide) ?_
          exact ⟨rfl, rfl, rfl, rfl, rfl⟩
        · exact absurd (show (3 : Int32) ≤ 3 by decide) h14_3
set_option maxRecDepth 100000 in
set_option maxHeartbeats 4000000 in
theorem l_load_64 {s : Nat} {nm : String} {xs : List Int32} (hs : pStat[s]? = some (nm, xs)) (hx : xs.length < 1000) (J : pJ) (Q : pQ) : ∀ (m i : Nat) (I : pI), i + m = 40 → Q (.inl none) 64 (ldL xs m i I) J pRs → PW m_X4_load Q 2 [(0, .ref 1), (1, .ref (1000 + s)), (2, .int (nI i))] [] 64 I J pRs 0 0 := by
  intro m
  induction m with
  | zero =>
    intro i I him hQ
    refine pw_iload_n dX4_load_2 rfl ?_
    refine pw_bipush (v := 40) dX4_load_3 (by decide) ?_
    refine pw_icmp_ge (tgt := 70) dX4_load_5 (by decide) (fun h5 => ?_) (fun h5 => ?_)
    · refine pw_vret dX4_load_70 rfl (by decide) (by decide) ?_
      exact hQ
    · exact absurd (nI_le (a := 40) (by omega) (by omega)) h5
  | succ m ih =>
    intro i I him hQ
    refine pw_iload_n dX4_load_2 rfl ?_
    refine pw_bipush (v := 40) dX4_load_3 (by decide) ?_
    refine pw_icmp_ge (tgt := 70) dX4_load_5 (by decide) (fun h5 => ?_) (fun h5 => ?_)
    · exact absurd ((nI_leI (a := 40) (by decide) (by omega)).mp h5) (by omega)
    · refine pw_iconst (v := 4) dX4_load_8 (by decide) ?_
      refine pw_iload_n dX4_load_9 rfl ?_
      refine pw_imul dX4_load_10 ?_
      have e40 : (4 : Int32) * nI i = nI (4 * i) := by rw [show (4 : Int32) = nI 4 by decide, pk_mul]
      have e41 : nI (4 * i) + (1 : Int32) = nI (4 * i + 1) := nI_1 _
      have e42 : nI (4 * i) + (2 : Int32) = nI (4 * i + 2) := by rw [show (2 : Int32) = nI 2 by decide, nI_add]
      have e43 : nI (4 * i) + (3 : Int32) = nI (4 * i + 3) := by rw [show (3 : Int32) = nI 3 by decide, nI_add]
      rw [e40]
      refine pw_istore_n dX4_load_11 (by decide) ?_
      refine pw_iload_n dX4_load_12 rfl ?_
      refine pw_iconst (v := 3) dX4_load_13 (by decide) ?_
      refine pw_iadd dX4_load_14 ?_
      rw [e43]
      refine pw_aload_n dX4_load_15 rfl ?_
      refine pw_slen dX4_load_16 hs rfl ?_
      refine pw_icmp_ge (tgt := 50) dX4_load_17 (by decide) (fun h17 => ?_) (fun h17 => ?_)
      · refine pw_aload_n dX4_load_50 rfl ?_
        refine pw_getr dX4_load_51 fl_X4_11 rfl rfl (by decide) (by decide) rfl ?_
        refine pw_iload_n dX4_load_54 rfl ?_
        refine pw_aaldI (x := 3 + i) dX4_load_55 rfl (by decide) (by decide) (vp_in_nI (by omega) (by decide)) (by rw [nI_clamp (by omega)]; rfl) ?_
        refine pw_bipush (v := 13) dX4_load_56 (by decide) ?_
        refine pw_iconst (v := 0) dX4_load_58 (by decide) ?_
        refine pw_iconst (v := 0) dX4_load_59 (by decide) ?_
        refine pw_iconst (v := 0) dX4_load_60 (by decide) ?_
        refine pw_cVv_64 (ci := 2) (y := yX2_become) (cc := cX2_become) (nL := 5) (ret := none) (rm := { frames := 0, cells := 0, slots := 0, locals := 0 }) dX4_load_61 (c_become_64 _ _ _ _ _ _ (pS_ins (by omega)) (by omega)) w_X4_18 (pS_ins (by omega)) (by omega) rfl ⟨by decide, by decide⟩ (by decide) (by decide) rfl (Nat.le_of_ble_eq_true rfl) (fun I61 J61 q61 => ?_)
        obtain ⟨rfl, rfl⟩ := rvv q61
        refine pw_iinc (v := nI (i + 1)) dX4_load_64 rfl (by rw [nI_succ]; rfl) (by decide) ?_
        refine pw_goto (tgt := 2) dX4_load_67 (by decide) ?_
        refine pw_loc (L' := [(0, .ref 1), (1, .ref (1000 + s)), (2, .int (nI (i + 1)))]) rfl ?_
        exact ih (i + 1) _ (by omega) (by rw [ldL, ldB, if_neg (fun z => absurd ((nI_leI (by omega) (by omega)).mp h17) (by omega))] at hQ; exact hQ)
      · have hlt : 4 * i + 3 < xs.length := Nat.lt_of_not_le (fun z => h17 (nI_le z (by omega)))
        refine pw_aload_n dX4_load_20 rfl ?_
        refine pw_getr dX4_load_21 fl_X4_11 rfl rfl (by decide) (by decide) rfl ?_
        refine pw_iload_n dX4_load_24 rfl ?_
        refine pw_aaldI (x := 3 + i) dX4_load_25 rfl (by decide) (by decide) (vp_in_nI (by omega) (by decide)) (by rw [nI_clamp (by omega)]; rfl) ?_
        refine pw_aload_n dX4_load_26 rfl ?_
        refine pw_iload_n dX4_load_27 rfl ?_
        refine pw_sald dX4_load_28 hs (vp_in_nI (by omega) (by omega)) ?_
        refine pw_aload_n dX4_load_29 rfl ?_
        refine pw_iload_n dX4_load_30 rfl ?_
        refine pw_iconst (v := 1) dX4_load_31 (by decide) ?_
        refine pw_iadd dX4_load_32 ?_
        rw [e41]
        refine pw_sald dX4_load_33 hs (vp_in_nI (by omega) (by omega)) ?_
        refine pw_aload_n dX4_load_34 rfl ?_
        refine pw_iload_n dX4_load_35 rfl ?_
        refine pw_iconst (v := 2) dX4_load_36 (by decide) ?_
        refine pw_iadd dX4_load_37 ?_
        rw [e42]
        refine pw_sald dX4_load_38 hs (vp_in_nI (by omega) (by omega)) ?_
        refine pw_aload_n dX4_load_39 rfl ?_
        refine pw_iload_n dX4_load_40 rfl ?_
        refine pw_iconst (v := 3) dX4_load_41 (by decide) ?_
        refine pw_iadd dX4_load_42 ?_
        rw [e43]
        refine pw_sald dX4_load_43 hs (vp_in_nI (by omega) (by omega)) ?_
        rw [nI_clamp (show 4 * i < 2 ^ 31 by omega), nI_clamp (show 4 * i + 1 < 2 ^ 31 by omega), nI_clamp (show 4 * i + 2 < 2 ^ 31 by omega), nI_clamp (show 4 * i + 3 < 2 ^ 31 by omega)]
        refine pw_cVv_64 (ci := 2) (y := yX2_become) (cc := cX2_become) (nL := 5) (ret := none) (rm := { frames := 0, cells := 0, slots := 0, locals := 0 }) dX4_load_44 (c_become_64 _ _ _ _ _ _ (pS_ins (by omega)) (by omega)) w_X4_18 (pS_ins (by omega)) (by omega) rfl ⟨by decide, by decide⟩ (by decide) (by decide) rfl (Nat.le_of_ble_eq_true rfl) (fun I44 J44 q44 => ?_)
        obtain ⟨rfl, rfl⟩ := rvv q44
        refine pw_goto (tgt := 64) dX4_load_47 (by decide) ?_
        refine pw_iinc (v := nI (i + 1)) dX4_load_64 rfl (by rw [nI_succ]; rfl) (by decide) ?_
        refine pw_goto (tgt := 2) dX4_load_67 (by decide) ?_
        refine pw_loc (L' := [(0, .ref 1), (1, .ref (1000 + s)), (2, .int (nI (i + 1)))]) rfl ?_
        exact ih (i + 1) _ (by omega) (by rw [ldL, ldB, if_pos (Nat.lt_of_not_le (fun z => h17 (nI_le z (by omega))))] at hQ; exact hQ)
set_option maxRecDepth 100000 in
set_option maxHeartbeats 4000000 in
theorem c_load_64 {s : Nat} {nm : String} {xs : List Int32} (I : pI) (J : pJ) (hs : pStat[s]? = some (nm, xs)) (hx : xs.length < 1000) : pMet yX4_load (pws yX4_load cX4_load 4 none) { frames := 1, cells := 0, slots := 0, locals := 24 } [.ref 1, .ref (1000 + s)] 64 I J pRs (pOv_64 (fun I' J' => I' = ldL xs 40 0 I ∧ J' = J)) := by
  refine pMet_of (by decide) (Nat.le_of_ble_eq_true rfl) ?_
  refine pw_iconst (v := 0) dX4_load_0 (by decide) ?_
  refine pw_istore_n dX4_load_1 (by decide) ?_
  refine pw_loc (L' := [(0, .ref 1), (1, .ref (1000 + s)), (2, .int (nI 0))]) rfl ?_
  exact l_load_64 hs hx J _ 40 0 _ (by decide) ⟨rfl, rfl, rfl, rfl, rfl⟩
set_option maxRecDepth 100000 in
set_option maxHeartbeats 4000000 in
theorem c_instructionsOf_64 (x : Int32) (I : pI) (J : pJ) : pMet yX5_instructionsOf (pws yX5_instructionsOf cX5_instructionsOf 1 (some (.array .int))) { frames := 0, cells := 0, slots := 0, locals := 0 } [.int x] 64 I J pRs (pOr_64 (fun r I' J' => r = 1000 + insOf x ∧ I' = I ∧ J' = J)) := by
  refine pMet_of (by decide) (Nat.le_of_ble_eq_true rfl) ?_
  refine pw_iload_n dX5_instructionsOf_0 rfl ?_
  refine pw_tsw dX5_instructionsOf_1 (fun i1 hi1 s1 => ?_) (fun o1 => ?_)
  · rcases (show i1 = 0 ∨ i1 = 1 ∨ i1 = 2 ∨ i1 = 3 by omega) with rfl | rfl | rfl | rfl
    · replace s1 := s1.trans (show _ = (2 : Int32) by decide)
      refine ⟨_, 32, rfl, by decide, ?_⟩
      refine pw_gets (i := 2) dX5_instructionsOf_32 rfl gs_172 ?_
      refine pw_aret dX5_instructionsOf_35 rfl (Or.inr ⟨_, rfl⟩) (by decide) (by decide) ?_
      exact ⟨_, rfl, rfl, rfl, by first | (simp [insOf, s1]; done) | simp [insOf, n2, n3, n4, n5], rfl, rfl⟩
    · replace s1 := s1.trans (show _ = (3 : Int32) by decide)
      refine ⟨_, 36, rfl, by decide, ?_⟩
      refine pw_gets (i := 3) dX5_instructionsOf_36 rfl gs_175 ?_
      refine pw_aret dX5_instructionsOf_39 rfl (Or.inr ⟨_, rfl⟩) (by decide) (by decide) ?_
      exact ⟨_, rfl, rfl, rfl, by first | (simp [insOf, s1]; done) | simp [insOf, n2, n3, n4, n5], rfl, rfl⟩
    · replace s1 := s1.trans (show _ = (4 : Int32) by decide)
      refine ⟨_, 40, rfl, by decide, ?_⟩
      refine pw_gets (i := 4) dX5_instructionsOf_40 rfl gs_178 ?_
      refine pw_aret dX5_instructionsOf_43 rfl (Or.inr ⟨_, rfl⟩) (by decide) (by decide) ?_
      exact ⟨_, rfl, rfl, rfl, by first | (simp [insOf, s1]; done) | simp [insOf, n2, n3, n4, n5], rfl, rfl⟩
    · replace s1 := s1.trans (show _ = (5 : Int32) by decide)
      refine ⟨_, 44, rfl, by decide, ?_⟩
      refine pw_gets (i := 5) dX5_instructionsOf_44 rfl gs_181 ?_
      refine pw_aret dX5_instructionsOf_47 rfl (Or.inr ⟨_, rfl⟩) (by decide) (by decide) ?_
      exact ⟨_, rfl, rfl, rfl, by first | (simp [insOf, s1]; done) | simp [insOf, n2, n3, n4, n5], rfl, rfl⟩
  · refine ⟨48, by decide, ?_⟩
    have n2 : ¬ x = 2 := fun e => by rw [e] at o1; revert o1; decide
    have n3 : ¬ x = 3 := fun e => by rw [e] at o1; revert o1; decide
    have n4 : ¬ x = 4 := fun e => by rw [e] at o1; revert o1; decide
    have n5 : ¬ x = 5 := fun e => by rw [e] at o1; revert o1; decide
    refine pw_gets (i := 1) dX5_instructionsOf_48 rfl gs_184 ?_
    refine pw_aret dX5_instructionsOf_51 rfl (Or.inr ⟨_, rfl⟩) (by decide) (by decide) ?_
    exact ⟨_, rfl, rfl, rfl, by first | (simp [insOf, s1]; done) | simp [insOf, n2, n3, n4, n5], rfl, rfl⟩
set_option maxRecDepth 100000 in
set_option maxHeartbeats 4000000 in
theorem c_show_64 (x n : Int32) (I : pI) (J : pJ) : pMet yX5_show (pws yX5_show cX5_show 3 none) { frames := 3, cells := 0, slots := 0, locals := 62 } [.ref 0, .int x, .int n] 64 I J pRs (pOv_64 (fun I' J' => I' = shI I x n ∧ J' = J)) := by
  refine pMet_of (by decide) (Nat.le_of_ble_eq_true rfl) ?_
  refine pw_aload_n dX5_show_0 rfl ?_
  refine pw_iload_n dX5_show_1 rfl ?_
  refine pw_puti dX5_show_2 fl_X5_63 rfl rfl rfl rfl rfl (by decide) (by decide) ?_
  refine pw_aload_n dX5_show_5 rfl ?_
  refine pw_getr dX5_show_6 fl_X5_10 rfl rfl (by decide) (by decide) rfl ?_
  refine pw_iload_n dX5_show_9 rfl ?_
  refine pw_cSr_64 (y := yX5_instructionsOf) (cc := cX5_instructionsOf) (nL := 1) (ret := (some (.array .int))) (rm := { frames := 0, cells := 0, slots := 0, locals := 0 }) dX5_show_10 (c_instructionsOf_64 _ _ _) w_X5_67 rfl ⟨by decide, by decide⟩ (by decide) (by decide) rfl (Nat.le_of_ble_eq_true rfl) (fun x10 I10 J10 q10 => ?_)
  obtain ⟨rfl, rfl, rfl⟩ := rvq q10
  refine pw_cVv_64 (ci := 4) (y := yX4_load) (cc := cX4_load) (nL := 4) (ret := none) (rm := { frames := 1, cells := 0, slots := 0, locals := 24 }) dX5_show_13 (c_load_64 _ _ (insOf_at x).choose_spec (insXs_len x)) w_X5_71 rfl (by decide) rfl ⟨by decide, by decide⟩ (by decide) (by decide) rfl (Nat.le_of_ble_eq_true rfl) (fun I13 J13 q13 => ?_)
  obtain ⟨rfl, rfl⟩ := rvv q13
  refine pw_aload_n dX5_show_16 rfl ?_
  refine pw_getr dX5_show_17 fl_X5_19 rfl rfl (by decide) (by decide) rfl ?_
  refine pw_iload_n dX5_show_20 rfl ?_
  refine pw_cVv_64 (ci := 1) (y := yX1_clear) (cc := cX1_clear) (nL := 3) (ret := none) (rm := { frames := 2, cells := 0, slots := 0, locals := 40 }) dX5_show_21 (c_clear_64 _ _ _ (Or.inl rfl)) w_X5_163 rfl (by decide) rfl ⟨by decide, by decide⟩ (by decide) (by decide) rfl (Nat.le_of_ble_eq_true rfl) (fun I21 J21 q21 => ?_)
  obtain ⟨rfl, rfl⟩ := rvv q21
  refine pw_vret dX5_show_24 rfl (by decide) (by decide) ?_
  exact ⟨rfl, rfl, rfl, rfl, rfl⟩
def pOv_83 (post : pI → pJ → Prop) : pQ := fun o n' I' J' P' => o = .inl none ∧ n' = 83 ∧ P' = pRs ∧ post I' J'
def pOr_83 (post : Nat → pI → pJ → Prop) : pQ := fun o n' I' J' P' => ∃ r : Nat, o = .inl (some (.ref r)) ∧ n' = 83 ∧ P' = pRs ∧ post r I' J'
section Rows
variable {M : pT} {Q : pQ} {pc : Nat} {L : List (Nat × Value)} {st : List Value} {I : pI} {J : pJ} {kc ks : Nat}
variable {y : MethodName} {cc : ByteArray} {nL : Nat} {ret : Option FieldType} {rm : Room} {as st0 : List Value} {a idx ci : Nat}
theorem pw_cVv_83 {post : pI → pJ → Prop} (hd : decode (pT.cc M) pc = .ok (.invokevirtual idx, 3)) (hM : pMet y (pws y cc nL ret) rm (.ref a :: as) 83 I J pRs (pOv_83 post)) (hw : pWV (pT.own M) idx ci y cc nL ret as.length = true) (hk : (pS a).1 = ci) (ha : a < 83) (hh : pT.hh M = []) (hR : rm.frames + 1 ≤ (pT.R M).frames ∧ 8 + (nL + 11) + rm.locals ≤ (pT.R M).locals) (hc : kc + rm.cells ≤ (pT.R M).cells) (hs : ks + rm.slots ≤ (pT.R M).slots) (h0 : st0 = as.reverse ++ .ref a :: st) (h8 : (st.map fun v => v.category).sum ≤ 8) (kk : ∀ I' J', post I' J' → PW M Q (pc + 3) L st 83 I' J' pRs (kc + rm.cells) (ks + rm.slots)) : PW M Q pc L st0 83 I J pRs kc ks := by
  refine pw_callV hd hM hw hk ha (by decide) hh hR hc hs h0 h8 (fun E n' I' J' P' h => by obtain ⟨h, -⟩ := h; cases h) (fun r n' I' J' P' h => ?_)
  obtain ⟨h1, rfl, rfl, h2⟩ := h
  cases h1
  exact kk I' J' h2
theorem pw_cSr_83 {post : Nat → pI → pJ → Prop} (hd : decode (pT.cc M) pc = .ok (.invokestatic idx, 3)) (hM : pMet y (pws y cc nL ret) rm as 83 I J pRs (pOr_83 post)) (hw : pWS (pT.own M) idx y cc nL ret as.length = true) (hh : pT.hh M = []) (hR : rm.frames + 1 ≤ (pT.R M).frames ∧ 8 + (nL + 11) + rm.locals ≤ (pT.R M).locals) (hc : kc + rm.cells ≤ (pT.R M).cells) (hs : ks + rm.slots ≤ (pT.R M).slots) (h0 : st0 = as.reverse ++ st) (h8 : (st.map fun v => v.category).sum ≤ 8) (kk : ∀ x I' J', post x I' J' → PW M Q (pc + 3) L (.ref x :: st) 83 I' J' pRs (kc + rm.cells) (ks + rm.slots)) : PW M Q pc L st0 83 I J pRs kc ks := by
  refine pw_callS hd hM hw hh hR hc hs h0 h8 (fun E n' I' J' P' h => by obtain ⟨_, h, -⟩ := h; cases h) (fun r n' I' J' P' h => ?_)
  obtain ⟨x, h1, rfl, rfl, h2⟩ := h
  cases h1
  exact kk x I' J' h2
end Rows
set_option maxRecDepth 100000 in
set_option maxHeartbeats 4000000 in
theorem r_is_83 {t : Nat} (k a b d : Int32) (I : pI) (J : pJ) (ht : t < 40) (hI : I 64 23 = nI t) : pMet yX6_is (pws yX6_is cX6_is 5 none) { frames := 0, cells := 0, slots := 0, locals := 0 } [.ref 64, .int k, .int a, .int b, .int d] 83 I J pRs (pOv_83 (fun I' J' => I' = isI I t (k, a, b, d) ∧ J' = J)) := by
  have e40 : (4 : Int32) * nI t = nI (4 * t) := by rw [show (4 : Int32) = nI 4 by decide, pk_mul]
  have e41 : nI (4 * t) + (1 : Int32) = nI (4 * t + 1) := nI_1 _
  have e42 : nI (4 * t) + (2 : Int32) = nI (4 * t + 2) := by rw [show (2 : Int32) = nI 2 by decide, nI_add]
  have e43 : nI (4 * t) + (3 : Int32) = nI (4 * t + 3) := by rw [show (3 : Int32) = nI 3 by decide, nI_add]
  refine pMet_of (by decide) (Nat.le_of_ble_eq_true rfl) ?_
  refine pw_aload_n dX6_is_0 rfl ?_
  refine pw_getr dX6_is_1 fl_X6_20 rfl rfl (by decide) (by decide) rfl ?_
  refine pw_iconst (v := 4) dX6_is_4 (by decide) ?_
  refine pw_aload_n dX6_is_5 rfl ?_
  refine pw_geti dX6_is_6 fl_X6_80 rfl rfl (by decide) (by decide) ?_
  refine pw_imul dX6_is_9 ?_
  refine pw_iload_n dX6_is_10 rfl ?_
  simp only [upI_a (show (64 : Nat) ≠ 66 by decide), hI, e40, e41, e42, e43]
  refine pw_iast dX6_is_11 rfl (by decide) (by decide) (vp_in_nI (by omega) (by decide)) ?_
  rw [nI_clamp (by omega)]
  refine pw_aload_n dX6_is_12 rfl ?_
  refine pw_getr dX6_is_13 fl_X6_20 rfl rfl (by decide) (by decide) rfl ?_
  refine pw_iconst (v := 4) dX6_is_16 (by decide) ?_
  refine pw_aload_n dX6_is_17 rfl ?_
  refine pw_geti dX6_is_18 fl_X6_80 rfl rfl (by decide) (by decide) ?_
  refine pw_imul dX6_is_21 ?_
  refine pw_iconst (v := 1) dX6_is_22 (by decide) ?_
  refine pw_iadd dX6_is_23 ?_
  refine pw_iload_n dX6_is_24 rfl ?_
  simp only [upI_a (show (64 : Nat) ≠ 66 by decide), hI, e40, e41, e42, e43]
  refine pw_iast dX6_is_25 rfl (by decide) (by decide) (vp_in_nI (by omega) (by decide)) ?_
  rw [nI_clamp (by omega)]
  refine pw_aload_n dX6_is_26 rfl ?_
  refine pw_getr dX6_is_27 fl_X6_20 rfl rfl (by decide) (by decide) rfl ?_
  refine pw_iconst (v := 4) dX6_is_30 (by decide) ?_
  refine pw_aload_n dX6_is_31 rfl ?_
  refine pw_geti dX6_is_32 fl_X6_80 rfl rfl (by decide) (by decide) ?_
  refine pw_imul dX6_is_35 ?_
  refine pw_iconst (v := 2) dX6_is_36 (by decide) ?_
  refine pw_iadd dX6_is_37 ?_
  refine pw_iload_n dX6_is_38 rfl ?_
  simp only [upI_a (show (64 : Nat) ≠ 66 by decide), hI, e40, e41, e42, e43]
  refine pw_iast dX6_is_39 rfl (by decide) (by decide) (vp_in_nI (by omega) (by decide)) ?_
  rw [nI_clamp (by omega)]
  refine pw_aload_n dX6_is_40 rfl ?_
  refine pw_getr dX6_is_41 fl_X6_20 rfl rfl (by decide) (by decide) rfl ?_
  refine pw_iconst (v := 4) dX6_is_44 (by decide) ?_
  refine pw_aload_n dX6_is_45 rfl ?_
  refine pw_geti dX6_is_46 fl_X6_80 rfl rfl (by decide) (by decide) ?_
  refine pw_imul dX6_is_49 ?_
  refine pw_iconst (v := 3) dX6_is_50 (by decide) ?_
  refine pw_iadd dX6_is_51 ?_
  refine pw_iload dX6_is_52 rfl ?_
  simp only [upI_a (show (64 : Nat) ≠ 66 by decide), hI, e40, e41, e42, e43]
  refine pw_iast dX6_is_54 rfl (by decide) (by decide) (vp_in_nI (by omega) (by decide)) ?_
  rw [nI_clamp (by omega)]
  refine pw_aload_n dX6_is_55 rfl ?_
  refine pw_dup dX6_is_56 rfl ?_
  refine pw_geti dX6_is_57 fl_X6_80 rfl rfl (by decide) (by decide) ?_
  refine pw_iconst (v := 1) dX6_is_60 (by decide) ?_
  refine pw_iadd dX6_is_61 ?_
  simp only [upI_a (show (64 : Nat) ≠ 66 by decide), hI, e40, e41, e42, e43]
  refine pw_puti dX6_is_62 fl_X6_80 rfl rfl rfl rfl rfl (by decide) (by decide) ?_
  refine pw_vret dX6_is_65 rfl (by decide) (by decide) ?_
  exact ⟨rfl, rfl, rfl, by rw [isI, nI_succ], rfl⟩
set_option maxRecDepth 100000 in
set_option maxHeartbeats 4000000 in
theorem r_swaps_83 (I : pI) (J : pJ) (h0 : I 64 23 = nI 0) : pMet yX6_swaps (pws yX6_swaps cX6_swaps 1 none) { frames := 1, cells := 0, slots := 0, locals := 24 } [.ref 64] 83 I J pRs (pOv_83 (fun I' J' => I' = isL xs_swaps 0 I ∧ J' = J)) := by
  refine pMet_of (by decide) (Nat.le_of_ble_eq_true rfl) ?_
  refine pw_aload_n dX6_swaps_0 rfl ?_
  refine pw_iconst (v := 0) dX6_swaps_1 (by decide) ?_
  refine pw_iconst (v := 2) dX6_swaps_2 (by decide) ?_
  refine pw_iconst (v := 1) dX6_swaps_3 (by decide) ?_
  refine pw_iconst (v := 0) dX6_swaps_4 (by decide) ?_
  refine pw_cVv_83 (ci := 6) (y := yX6_is) (cc := cX6_is) (nL := 5) (ret := none) (rm := { frames := 0, cells := 0, slots := 0, locals := 0 }) dX6_swaps_5 (r_is_83 (t := 0) _ _ _ _ _ _ (by decide) (h0)) w_X6_83 rfl (by decide) rfl ⟨by decide, by decide⟩ (by decide) (by decide) rfl (Nat.le_of_ble_eq_true rfl) (fun I5 J5 q5 => ?_)
  obtain ⟨rfl, rfl⟩ := rvv q5
  refine pw_aload_n dX6_swaps_8 rfl ?_
  refine pw_bipush (v := 9) dX6_swaps_9 (by decide) ?_
  refine pw_iconst (v := 2) dX6_swaps_11 (by decide) ?_
  refine pw_iconst (v := 0) dX6_swaps_12 (by decide) ?_
  refine pw_bipush (v := 6) dX6_swaps_13 (by decide) ?_
  refine pw_cVv_83 (ci := 6) (y := yX6_is) (cc := cX6_is) (nL := 5) (ret := none) (rm := { frames := 0, cells := 0, slots := 0, locals := 0 }) dX6_swaps_15 (r_is_83 (t := 1) _ _ _ _ _ _ (by decide) (isI_at)) w_X6_83 rfl (by decide) rfl ⟨by decide, by decide⟩ (by decide) (by decide) rfl (Nat.le_of_ble_eq_true rfl) (fun I15 J15 q15 => ?_)
  obtain ⟨rfl, rfl⟩ := rvv q15
  refine pw_aload_n dX6_swaps_18 rfl ?_
  refine pw_iconst (v := 0) dX6_swaps_19 (by decide) ?_
  refine pw_iconst (v := 3) dX6_swaps_20 (by decide) ?_
  refine pw_iconst (v := 0) dX6_swaps_21 (by decide) ?_
  refine pw_iconst (v := 0) dX6_swaps_22 (by decide) ?_
  refine pw_cVv_83 (ci := 6) (y := yX6_is) (cc := cX6_is) (nL := 5) (ret := none) (rm := { frames := 0, cells := 0, slots := 0, locals := 0 }) dX6_swaps_23 (r_is_83 (t := 2) _ _ _ _ _ _ (by decide) (isI_at)) w_X6_83 rfl (by decide) rfl ⟨by decide, by decide⟩ (by decide) (by decide) rfl (Nat.le_of_ble_eq_true rfl) (fun I23 J23 q23 => ?_)
  obtain ⟨rfl, rfl⟩ := rvv q23
  refine pw_aload_n dX6_swaps_26 rfl ?_
  refine pw_iconst (v := 3) dX6_swaps_27 (by decide) ?_
  refine pw_iconst (v := 2) dX6_swaps_28 (by decide) ?_
  refine pw_iconst (v := 3) dX6_swaps_29 (by decide) ?_
  refine pw_iconst (v := 5) dX6_swaps_30 (by decide) ?_
  refine pw_cVv_83 (ci := 6) (y := yX6_is) (cc := cX6_is) (nL := 5) (ret := none) (rm := { frames := 0, cells := 0, slots := 0, locals := 0 }) dX6_swaps_31 (r_is_83 (t := 3) _ _ _ _ _ _ (by decide) (isI_at)) w_X6_83 rfl (by decide) rfl ⟨by decide, by decide⟩ (by decide) (by decide) rfl (Nat.le_of_ble_eq_true rfl) (fun I31 J31 q31 => ?_)
  obtain ⟨rfl, rfl⟩ := rvv q31
  refine pw_aload_n dX6_swaps_34 rfl ?_
  refine pw_iconst (v := 5) dX6_swaps_35 (by decide) ?_
  refine pw_iconst (v := 0) dX6_swaps_36 (by decide) ?_
  refine pw_iconst (v := 0) dX6_swaps_37 (by decide) ?_
  refine pw_iconst (v := 0) dX6_swaps_38 (by decide) ?_
  refine pw_cVv_83 (ci := 6) (y := yX6_is) (cc := cX6_is) (nL := 5) (ret := none) (rm := { frames := 0, cells := 0, slots := 0, locals := 0 }) dX6_swaps_39 (r_is_83 (t := 4) _ _ _ _ _ _ (by decide) (isI_at)) w_X6_83 rfl (by decide) rfl ⟨by decide, by decide⟩ (by decide) (by decide) rfl (Nat.le_of_ble_eq_true rfl) (fun I39 J39 q39 => ?_)
  obtain ⟨rfl, rfl⟩ := rvv q39
  refine pw_aload_n dX6_swaps_42 rfl ?_
  refine pw_bipush (v := 12) dX6_swaps_43 (by decide) ?_
  refine pw_iconst (v := 0) dX6_swaps_45 (by decide) ?_
  refine pw_iconst (v := 0) dX6_swaps_46 (by decide) ?_
  refine pw_iconst (v := 0) dX6_swaps_47 (by decide) ?_
  refine pw_cVv_83 (ci := 6) (y := yX6_is) (cc := cX6_is) (nL := 5) (ret := none) (rm := { frames := 0, cells := 0, slots := 0, locals := 0 }) dX6_swaps_48 (r_is_83 (t := 5) _ _ _ _ _ _ (by decide) (isI_at)) w_X6_83 rfl (by decide) rfl ⟨by decide, by decide⟩ (by decide) (by decide) rfl (Nat.le_of_ble_eq_true rfl) (fun I48 J48 q48 => ?_)
  obtain ⟨rfl, rfl⟩ := rvv q48
  refine pw_aload_n dX6_swaps_51 rfl ?_
  refine pw_iconst (v := 0) dX6_swaps_52 (by decide) ?_
  refine pw_iconst (v := 2) dX6_swaps_53 (by decide) ?_
  refine pw_iconst (v := 0) dX6_swaps_54 (by decide) ?_
  refine pw_iconst (v := 0) dX6_swaps_55 (by decide) ?_
  refine pw_cVv_83 (ci := 6) (y := yX6_is) (cc := cX6_is) (nL := 5) (ret := none) (rm := { frames := 0, cells := 0, slots := 0, locals := 0 }) dX6_swaps_56 (r_is_83 (t := 6) _ _ _ _ _ _ (by decide) (isI_at)) w_X6_83 rfl (by decide) rfl ⟨by decide, by decide⟩ (by decide) (by decide) rfl (Nat.le_of_ble_eq_true rfl) (fun I56 J56 q56 => ?_)
  obtain ⟨rfl, rfl⟩ := rvv q56
  refine pw_aload_n dX6_swaps_59 rfl ?_
  refine pw_bipush (v := 8) dX6_swaps_60 (by decide) ?_
  refine pw_iconst (v := 2) dX6_swaps_62 (by decide) ?_
  refine pw_iconst (v := 0) dX6_swaps_63 (by decide) ?_
  refine pw_bipush (v := 6) dX6_swaps_64 (by decide) ?_
  refine pw_cVv_83 (ci := 6) (y := yX6_is) (cc := cX6_is) (nL := 5) (ret := none) (rm := { frames := 0, cells := 0, slots := 0, locals := 0 }) dX6_swaps_66 (r_is_83 (t := 7) _ _ _ _ _ _ (by decide) (isI_at)) w_X6_83 rfl (by decide) rfl ⟨by decide, by decide⟩ (by decide) (by decide) rfl (Nat.le_of_ble_eq_true rfl) (fun I66 J66 q66 => ?_)
  obtain ⟨rfl, rfl⟩ := rvv q66
  refine pw_aload_n dX6_swaps_69 rfl ?_
  refine pw_bipush (v := 13) dX6_swaps_70 (by decide) ?_
  refine pw_iconst (v := 0) dX6_swaps_72 (by decide) ?_
  refine pw_iconst (v := 0) dX6_swaps_73 (by decide) ?_
  refine pw_iconst (v := 0) dX6_swaps_74 (by decide) ?_
  refine pw_cVv_83 (ci := 6) (y := yX6_is) (cc := cX6_is) (nL := 5) (ret := none) (rm := { frames := 0, cells := 0, slots := 0, locals := 0 }) dX6_swaps_75 (r_is_83 (t := 8) _ _ _ _ _ _ (by decide) (isI_at)) w_X6_83 rfl (by decide) rfl ⟨by decide, by decide⟩ (by decide) (by decide) rfl (Nat.le_of_ble_eq_true rfl) (fun I75 J75 q75 => ?_)
  obtain ⟨rfl, rfl⟩ := rvv q75
  refine pw_vret dX6_swaps_78 rfl (by decide) (by decide) ?_
  exact ⟨rfl, rfl, rfl, rfl, rfl⟩
set_option maxRecDepth 100000 in
set_option maxHeartbeats 4000000 in
theorem r_tickets_83 (I : pI) (J : pJ) (h0 : I 64 23 = nI 0) : pMet yX6_tickets (pws yX6_tickets cX6_tickets 1 none) { frames := 1, cells := 0, slots := 0, locals := 24 } [.ref 64] 83 I J pRs (pOv_83 (fun I' J' => I' = isL xs_tickets 0 I ∧ J' = J)) := by
  refine pMet_of (by decide) (Nat.le_of_ble_eq_true rfl) ?_
  refine pw_aload_n dX6_tickets_0 rfl ?_
  refine pw_bipush (v := 10) dX6_tickets_1 (by decide) ?_
  refine pw_iconst (v := 2) dX6_tickets_3 (by decide) ?_
  refine pw_iconst (v := 0) dX6_tickets_4 (by decide) ?_
  refine pw_iconst (v := 1) dX6_tickets_5 (by decide) ?_
  refine pw_cVv_83 (ci := 6) (y := yX6_is) (cc := cX6_is) (nL := 5) (ret := none) (rm := { frames := 0, cells := 0, slots := 0, locals := 0 }) dX6_tickets_6 (r_is_83 (t := 0) _ _ _ _ _ _ (by decide) (h0)) w_X6_83 rfl (by decide) rfl ⟨by decide, by decide⟩ (by decide) (by decide) rfl (Nat.le_of_ble_eq_true rfl) (fun I6 J6 q6 => ?_)
  obtain ⟨rfl, rfl⟩ := rvv q6
  refine pw_aload_n dX6_tickets_9 rfl ?_
  refine pw_bipush (v := 6) dX6_tickets_10 (by decide) ?_
  refine pw_iconst (v := 0) dX6_tickets_12 (by decide) ?_
  refine pw_iconst (v := 0) dX6_tickets_13 (by decide) ?_
  refine pw_iconst (v := 0) dX6_tickets_14 (by decide) ?_
  refine pw_cVv_83 (ci := 6) (y := yX6_is) (cc := cX6_is) (nL := 5) (ret := none) (rm := { frames := 0, cells := 0, slots := 0, locals := 0 }) dX6_tickets_15 (r_is_83 (t := 1) _ _ _ _ _ _ (by decide) (isI_at)) w_X6_83 rfl (by decide) rfl ⟨by decide, by decide⟩ (by decide) (by decide) rfl (Nat.le_of_ble_eq_true rfl) (fun I15 J15 q15 => ?_)
  obtain ⟨rfl, rfl⟩ := rvv q15
  refine pw_aload_n dX6_tickets_18 rfl ?_
  refine pw_bipush (v := 7) dX6_tickets_19 (by decide) ?_
  refine pw_iconst (v := 3) dX6_tickets_21 (by decide) ?_
  refine pw_iconst (v := 1) dX6_tickets_22 (by decide) ?_
  refine pw_bipush (v := 6) dX6_tickets_23 (by decide) ?_
  refine pw_cVv_83 (ci := 6) (y := yX6_is) (cc := cX6_is) (nL := 5) (ret := none) (rm := { frames := 0, cells := 0, slots := 0, locals := 0 }) dX6_tickets_25 (r_is_83 (t := 2) _ _ _ _ _ _ (by decide) (isI_at)) w_X6_83 rfl (by decide) rfl ⟨by decide, by decide⟩ (by decide) (by decide) rfl (Nat.le_of_ble_eq_true rfl) (fun I25 J25 q25 => ?_)
  obtain ⟨rfl, rfl⟩ := rvv q25
  refine pw_aload_n dX6_tickets_28 rfl ?_
  refine pw_iconst (v := 3) dX6_tickets_29 (by decide) ?_
  refine pw_iconst (v := 2) dX6_tickets_30 (by decide) ?_
  refine pw_iconst (v := 3) dX6_tickets_31 (by decide) ?_
  refine pw_iconst (v := 5) dX6_tickets_32 (by decide) ?_
  refine pw_cVv_83 (ci := 6) (y := yX6_is) (cc := cX6_is) (nL := 5) (ret := none) (rm := { frames := 0, cells := 0, slots := 0, locals := 0 }) dX6_tickets_33 (r_is_83 (t := 3) _ _ _ _ _ _ (by decide) (isI_at)) w_X6_83 rfl (by decide) rfl ⟨by decide, by decide⟩ (by decide) (by decide) rfl (Nat.le_of_ble_eq_true rfl) (fun I33 J33 q33 => ?_)
  obtain ⟨rfl, rfl⟩ := rvv q33
  refine pw_aload_n dX6_tickets_36 rfl ?_
  refine pw_iconst (v := 5) dX6_tickets_37 (by decide) ?_
  refine pw_iconst (v := 0) dX6_tickets_38 (by decide) ?_
  refine pw_iconst (v := 0) dX6_tickets_39 (by decide) ?_
  refine pw_iconst (v := 2) dX6_tickets_40 (by decide) ?_
  refine pw_cVv_83 (ci := 6) (y := yX6_is) (cc := cX6_is) (nL := 5) (ret := none) (rm := { frames := 0, cells := 0, slots := 0, locals := 0 }) dX6_tickets_41 (r_is_83 (t := 4) _ _ _ _ _ _ (by decide) (isI_at)) w_X6_83 rfl (by decide) rfl ⟨by decide, by decide⟩ (by decide) (by decide) rfl (Nat.le_of_ble_eq_true rfl) (fun I41 J41 q41 => ?_)
  obtain ⟨rfl, rfl⟩ := rvv q41
  refine pw_aload_n dX6_tickets_44 rfl ?_
  refine pw_bipush (v := 12) dX6_tickets_45 (by decide) ?_
  refine pw_iconst (v := 0) dX6_tickets_47 (by decide) ?_
  refine pw_iconst (v := 0) dX6_tickets_48 (by decide) ?_
  refine pw_iconst (v := 0) dX6_tickets_49 (by decide) ?_
  refine pw_cVv_83 (ci := 6) (y := yX6_is) (cc := cX6_is) (nL := 5) (ret := none) (rm := { frames := 0, cells := 0, slots := 0, locals := 0 }) dX6_tickets_50 (r_is_83 (t := 5) _ _ _ _ _ _ (by decide) (isI_at)) w_X6_83 rfl (by decide) rfl ⟨by decide, by decide⟩ (by decide) (by decide) rfl (Nat.le_of_ble_eq_true rfl) (fun I50 J50 q50 => ?_)
  obtain ⟨rfl, rfl⟩ := rvv q50
  refine pw_aload_n dX6_tickets_53 rfl ?_
  refine pw_bipush (v := 10) dX6_tickets_54 (by decide) ?_
  refine pw_iconst (v := 3) dX6_tickets_56 (by decide) ?_
  refine pw_iconst (v := 1) dX6_tickets_57 (by decide) ?_
  refine pw_iconst (v := 1) dX6_tickets_58 (by decide) ?_
  refine pw_cVv_83 (ci := 6) (y := yX6_is) (cc := cX6_is) (nL := 5) (ret := none) (rm := { frames := 0, cells := 0, slots := 0, locals := 0 }) dX6_tickets_59 (r_is_83 (t := 6) _ _ _ _ _ _ (by decide) (isI_at)) w_X6_83 rfl (by decide) rfl ⟨by decide, by decide⟩ (by decide) (by decide) rfl (Nat.le_of_ble_eq_true rfl) (fun I59 J59 q59 => ?_)
  obtain ⟨rfl, rfl⟩ := rvv q59
  refine pw_aload_n dX6_tickets_62 rfl ?_
  refine pw_bipush (v := 13) dX6_tickets_63 (by decide) ?_
  refine pw_iconst (v := 0) dX6_tickets_65 (by decide) ?_
  refine pw_iconst (v := 0) dX6_tickets_66 (by decide) ?_
  refine pw_iconst (v := 0) dX6_tickets_67 (by decide) ?_
  refine pw_cVv_83 (ci := 6) (y := yX6_is) (cc := cX6_is) (nL := 5) (ret := none) (rm := { frames := 0, cells := 0, slots := 0, locals := 0 }) dX6_tickets_68 (r_is_83 (t := 7) _ _ _ _ _ _ (by decide) (isI_at)) w_X6_83 rfl (by decide) rfl ⟨by decide, by decide⟩ (by decide) (by decide) rfl (Nat.le_of_ble_eq_true rfl) (fun I68 J68 q68 => ?_)
  obtain ⟨rfl, rfl⟩ := rvv q68
  refine pw_vret dX6_tickets_71 rfl (by decide) (by decide) ?_
  exact ⟨rfl, rfl, rfl, rfl, rfl⟩
set_option maxRecDepth 100000 in
set_option maxHeartbeats 4000000 in
theorem r_two_83 (I : pI) (J : pJ) (h0 : I 64 23 = nI 0) : pMet yX6_two (pws yX6_two cX6_two 1 none) { frames := 1, cells := 0, slots := 0, locals := 24 } [.ref 64] 83 I J pRs (pOv_83 (fun I' J' => I' = isL xs_two 0 I ∧ J' = J)) := by
  refine pMet_of (by decide) (Nat.le_of_ble_eq_true rfl) ?_
  refine pw_aload_n dX6_two_0 rfl ?_
  refine pw_iconst (v := 0) dX6_two_1 (by decide) ?_
  refine pw_iconst (v := 1) dX6_two_2 (by decide) ?_
  refine pw_iconst (v := 1) dX6_two_3 (by decide) ?_
  refine pw_iconst (v := 0) dX6_two_4 (by decide) ?_
  refine pw_cVv_83 (ci := 6) (y := yX6_is) (cc := cX6_is) (nL := 5) (ret := none) (rm := { frames := 0, cells := 0, slots := 0, locals := 0 }) dX6_two_5 (r_is_83 (t := 0) _ _ _ _ _ _ (by decide) (h0)) w_X6_83 rfl (by decide) rfl ⟨by decide, by decide⟩ (by decide) (by decide) rfl (Nat.le_of_ble_eq_true rfl) (fun I5 J5 q5 => ?_)
  obtain ⟨rfl, rfl⟩ := rvv q5
  refine pw_aload_n dX6_two_8 rfl ?_
  refine pw_iconst (v := 0) dX6_two_9 (by decide) ?_
  refine pw_iconst (v := 3) dX6_two_10 (by decide) ?_
  refine pw_iconst (v := 0) dX6_two_11 (by decide) ?_
  refine pw_iconst (v := 0) dX6_two_12 (by decide) ?_
  refine pw_cVv_83 (ci := 6) (y := yX6_is) (cc := cX6_is) (nL := 5) (ret := none) (rm := { frames := 0, cells := 0, slots := 0, locals := 0 }) dX6_two_13 (r_is_83 (t := 1) _ _ _ _ _ _ (by decide) (isI_at)) w_X6_83 rfl (by decide) rfl ⟨by decide, by decide⟩ (by decide) (by decide) rfl (Nat.le_of_ble_eq_true rfl) (fun I13 J13 q13 => ?_)
  obtain ⟨rfl, rfl⟩ := rvv q13
  refine pw_aload_n dX6_two_16 rfl ?_
  refine pw_iconst (v := 3) dX6_two_17 (by decide) ?_
  refine pw_iconst (v := 0) dX6_two_18 (by decide) ?_
  refine pw_iconst (v := 3) dX6_two_19 (by decide) ?_
  refine pw_iconst (v := 4) dX6_two_20 (by decide) ?_
  refine pw_cVv_83 (ci := 6) (y := yX6_is) (cc := cX6_is) (nL := 5) (ret := none) (rm := { frames := 0, cells := 0, slots := 0, locals := 0 }) dX6_two_21 (r_is_83 (t := 2) _ _ _ _ _ _ (by decide) (isI_at)) w_X6_83 rfl (by decide) rfl ⟨by decide, by decide⟩ (by decide) (by decide) rfl (Nat.le_of_ble_eq_true rfl) (fun I21 J21 q21 => ?_)
  obtain ⟨rfl, rfl⟩ := rvv q21
  refine pw_aload_n dX6_two_24 rfl ?_
  refine pw_iconst (v := 0) dX6_two_25 (by decide) ?_
  refine pw_iconst (v := 1) dX6_two_26 (by decide) ?_
  refine pw_iconst (v := 0) dX6_two_27 (by decide) ?_
  refine pw_iconst (v := 0) dX6_two_28 (by decide) ?_
  refine pw_cVv_83 (ci := 6) (y := yX6_is) (cc := cX6_is) (nL := 5) (ret := none) (rm := { frames := 0, cells := 0, slots := 0, locals := 0 }) dX6_two_29 (r_is_83 (t := 3) _ _ _ _ _ _ (by decide) (isI_at)) w_X6_83 rfl (by decide) rfl ⟨by decide, by decide⟩ (by decide) (by decide) rfl (Nat.le_of_ble_eq_true rfl) (fun I29 J29 q29 => ?_)
  obtain ⟨rfl, rfl⟩ := rvv q29
  refine pw_aload_n dX6_two_32 rfl ?_
  refine pw_iconst (v := 0) dX6_two_33 (by decide) ?_
  refine pw_iconst (v := 2) dX6_two_34 (by decide) ?_
  refine pw_iconst (v := 1) dX6_two_35 (by decide) ?_
  refine pw_iconst (v := 0) dX6_two_36 (by decide) ?_
  refine pw_cVv_83 (ci := 6) (y := yX6_is) (cc := cX6_is) (nL := 5) (ret := none) (rm := { frames := 0, cells := 0, slots := 0, locals := 0 }) dX6_two_37 (r_is_83 (t := 4) _ _ _ _ _ _ (by decide) (isI_at)) w_X6_83 rfl (by decide) rfl ⟨by decide, by decide⟩ (by decide) (by decide) rfl (Nat.le_of_ble_eq_true rfl) (fun I37 J37 q37 => ?_)
  obtain ⟨rfl, rfl⟩ := rvv q37
  refine pw_aload_n dX6_two_40 rfl ?_
  refine pw_bipush (v := 8) dX6_two_41 (by decide) ?_
  refine pw_iconst (v := 2) dX6_two_43 (by decide) ?_
  refine pw_iconst (v := 0) dX6_two_44 (by decide) ?_
  refine pw_iconst (v := 0) dX6_two_45 (by decide) ?_
  refine pw_cVv_83 (ci := 6) (y := yX6_is) (cc := cX6_is) (nL := 5) (ret := none) (rm := { frames := 0, cells := 0, slots := 0, locals := 0 }) dX6_two_46 (r_is_83 (t := 5) _ _ _ _ _ _ (by decide) (isI_at)) w_X6_83 rfl (by decide) rfl ⟨by decide, by decide⟩ (by decide) (by decide) rfl (Nat.le_of_ble_eq_true rfl) (fun I46 J46 q46 => ?_)
  obtain ⟨rfl, rfl⟩ := rvv q46
  refine pw_aload_n dX6_two_49 rfl ?_
  refine pw_bipush (v := 8) dX6_two_50 (by decide) ?_
  refine pw_iconst (v := 1) dX6_two_52 (by decide) ?_
  refine pw_iconst (v := 2) dX6_two_53 (by decide) ?_
  refine pw_bipush (v := 6) dX6_two_54 (by decide) ?_
  refine pw_cVv_83 (ci := 6) (y := yX6_is) (cc := cX6_is) (nL := 5) (ret := none) (rm := { frames := 0, cells := 0, slots := 0, locals := 0 }) dX6_two_56 (r_is_83 (t := 6) _ _ _ _ _ _ (by decide) (isI_at)) w_X6_83 rfl (by decide) rfl ⟨by decide, by decide⟩ (by decide) (by decide) rfl (Nat.le_of_ble_eq_true rfl) (fun I56 J56 q56 => ?_)
  obtain ⟨rfl, rfl⟩ := rvv q56
  refine pw_aload_n dX6_two_59 rfl ?_
  refine pw_bipush (v := 6) dX6_two_60 (by decide) ?_
  refine pw_iconst (v := 0) dX6_two_62 (by decide) ?_
  refine pw_iconst (v := 0) dX6_two_63 (by decide) ?_
  refine pw_iconst (v := 0) dX6_two_64 (by decide) ?_
  refine pw_cVv_83 (ci := 6) (y := yX6_is) (cc := cX6_is) (nL := 5) (ret := none) (rm := { frames := 0, cells := 0, slots := 0, locals := 0 }) dX6_two_65 (r_is_83 (t := 7) _ _ _ _ _ _ (by decide) (isI_at)) w_X6_83 rfl (by decide) rfl ⟨by decide, by decide⟩ (by decide) (by decide) rfl (Nat.le_of_ble_eq_true rfl) (fun I65 J65 q65 => ?_)
  obtain ⟨rfl, rfl⟩ := rvv q65
  refine pw_aload_n dX6_two_68 rfl ?_
  refine pw_bipush (v := 7) dX6_two_69 (by decide) ?_
  refine pw_iconst (v := 2) dX6_two_71 (by decide) ?_
  refine pw_iconst (v := 0) dX6_two_72 (by decide) ?_
  refine pw_iconst (v := 1) dX6_two_73 (by decide) ?_
  refine pw_cVv_83 (ci := 6) (y := yX6_is) (cc := cX6_is) (nL := 5) (ret := none) (rm := { frames := 0, cells := 0, slots := 0, locals := 0 }) dX6_two_74 (r_is_83 (t := 8) _ _ _ _ _ _ (by decide) (isI_at)) w_X6_83 rfl (by decide) rfl ⟨by decide, by decide⟩ (by decide) (by decide) rfl (Nat.le_of_ble_eq_true rfl) (fun I74 J74 q74 => ?_)
  obtain ⟨rfl, rfl⟩ := rvv q74
  refine pw_aload_n dX6_two_77 rfl ?_
  refine pw_iconst (v := 0) dX6_two_78 (by decide) ?_
  refine pw_iconst (v := 3) dX6_two_79 (by decide) ?_
  refine pw_iconst (v := 0) dX6_two_80 (by decide) ?_
  refine pw_iconst (v := 0) dX6_two_81 (by decide) ?_
  refine pw_cVv_83 (ci := 6) (y := yX6_is) (cc := cX6_is) (nL := 5) (ret := none) (rm := { frames := 0, cells := 0, slots := 0, locals := 0 }) dX6_two_82 (r_is_83 (t := 9) _ _ _ _ _ _ (by decide) (isI_at)) w_X6_83 rfl (by decide) rfl ⟨by decide, by decide⟩ (by decide) (by decide) rfl (Nat.le_of_ble_eq_true rfl) (fun I82 J82 q82 => ?_)
  obtain ⟨rfl, rfl⟩ := rvv q82
  refine pw_aload_n dX6_two_85 rfl ?_
  refine pw_iconst (v := 3) dX6_two_86 (by decide) ?_
  refine pw_iconst (v := 2) dX6_two_87 (by decide) ?_
  refine pw_iconst (v := 3) dX6_two_88 (by decide) ?_
  refine pw_bipush (v := 14) dX6_two_89 (by decide) ?_
  refine pw_cVv_83 (ci := 6) (y := yX6_is) (cc := cX6_is) (nL := 5) (ret := none) (rm := { frames := 0, cells := 0, slots := 0, locals := 0 }) dX6_two_91 (r_is_83 (t := 10) _ _ _ _ _ _ (by decide) (isI_at)) w_X6_83 rfl (by decide) rfl ⟨by decide, by decide⟩ (by decide) (by decide) rfl (Nat.le_of_ble_eq_true rfl) (fun I91 J91 q91 => ?_)
  obtain ⟨rfl, rfl⟩ := rvv q91
  refine pw_aload_n dX6_two_94 rfl ?_
  refine pw_bipush (v := 7) dX6_two_95 (by decide) ?_
  refine pw_iconst (v := 2) dX6_two_97 (by decide) ?_
  refine pw_iconst (v := 2) dX6_two_98 (by decide) ?_
  refine pw_bipush (v := 6) dX6_two_99 (by decide) ?_
  refine pw_cVv_83 (ci := 6) (y := yX6_is) (cc := cX6_is) (nL := 5) (ret := none) (rm := { frames := 0, cells := 0, slots := 0, locals := 0 }) dX6_two_101 (r_is_83 (t := 11) _ _ _ _ _ _ (by decide) (isI_at)) w_X6_83 rfl (by decide) rfl ⟨by decide, by decide⟩ (by decide) (by decide) rfl (Nat.le_of_ble_eq_true rfl) (fun I101 J101 q101 => ?_)
  obtain ⟨rfl, rfl⟩ := rvv q101
  refine pw_aload_n dX6_two_104 rfl ?_
  refine pw_iconst (v := 3) dX6_two_105 (by decide) ?_
  refine pw_iconst (v := 2) dX6_two_106 (by decide) ?_
  refine pw_iconst (v := 0) dX6_two_107 (by decide) ?_
  refine pw_bipush (v := 14) dX6_two_108 (by decide) ?_
  refine pw_cVv_83 (ci := 6) (y := yX6_is) (cc := cX6_is) (nL := 5) (ret := none) (rm := { frames := 0, cells := 0, slots := 0, locals := 0 }) dX6_two_110 (r_is_83 (t := 12) _ _ _ _ _ _ (by decide) (isI_at)) w_X6_83 rfl (by decide) rfl ⟨by decide, by decide⟩ (by decide) (by decide) rfl (Nat.le_of_ble_eq_true rfl) (fun I110 J110 q110 => ?_)
  obtain ⟨rfl, rfl⟩ := rvv q110
  refine pw_aload_n dX6_two_113 rfl ?_
  refine pw_iconst (v := 5) dX6_two_114 (by decide) ?_
  refine pw_iconst (v := 0) dX6_two_115 (by decide) ?_
  refine pw_iconst (v := 0) dX6_two_116 (by decide) ?_
  refine pw_bipush (v := 8) dX6_two_117 (by decide) ?_
  refine pw_cVv_83 (ci := 6) (y := yX6_is) (cc := cX6_is) (nL := 5) (ret := none) (rm := { frames := 0, cells := 0, slots := 0, locals := 0 }) dX6_two_119 (r_is_83 (t := 13) _ _ _ _ _ _ (by decide) (isI_at)) w_X6_83 rfl (by decide) rfl ⟨by decide, by decide⟩ (by decide) (by decide) rfl (Nat.le_of_ble_eq_true rfl) (fun I119 J119 q119 => ?_)
  obtain ⟨rfl, rfl⟩ := rvv q119
  refine pw_aload_n dX6_two_122 rfl ?_
  refine pw_bipush (v := 12) dX6_two_123 (by decide) ?_
  refine pw_iconst (v := 0) dX6_two_125 (by decide) ?_
  refine pw_iconst (v := 0) dX6_two_126 (by decide) ?_
  refine pw_iconst (v := 0) dX6_two_127 (by decide) ?_
  refine pw_cVv_83 (ci := 6) (y := yX6_is) (cc := cX6_is) (nL := 5) (ret := none) (rm := { frames := 0, cells := 0, slots := 0, locals := 0 }) dX6_two_128 (r_is_83 (t := 14) _ _ _ _ _ _ (by decide) (isI_at)) w_X6_83 rfl (by decide) rfl ⟨by decide, by decide⟩ (by decide) (by decide) rfl (Nat.le_of_ble_eq_true rfl) (fun I128 J128 q128 => ?_)
  obtain ⟨rfl, rfl⟩ := rvv q128
  refine pw_aload_n dX6_two_131 rfl ?_
  refine pw_iconst (v := 0) dX6_two_132 (by decide) ?_
  refine pw_iconst (v := 2) dX6_two_133 (by decide) ?_
  refine pw_iconst (v := 0) dX6_two_134 (by decide) ?_
  refine pw_iconst (v := 0) dX6_two_135 (by decide) ?_
  refine pw_cVv_83 (ci := 6) (y := yX6_is) (cc := cX6_is) (nL := 5) (ret := none) (rm := { frames := 0, cells := 0, slots := 0, locals := 0 }) dX6_two_136 (r_is_83 (t := 15) _ _ _ _ _ _ (by decide) (isI_at)) w_X6_83 rfl (by decide) rfl ⟨by decide, by decide⟩ (by decide) (by decide) rfl (Nat.le_of_ble_eq_true rfl) (fun I136 J136 q136 => ?_)
  obtain ⟨rfl, rfl⟩ := rvv q136
  refine pw_aload_n dX6_two_139 rfl ?_
  refine pw_bipush (v := 8) dX6_two_140 (by decide) ?_
  refine pw_iconst (v := 2) dX6_two_142 (by decide) ?_
  refine pw_iconst (v := 0) dX6_two_143 (by decide) ?_
  refine pw_iconst (v := 0) dX6_two_144 (by decide) ?_
  refine pw_cVv_83 (ci := 6) (y := yX6_is) (cc := cX6_is) (nL := 5) (ret := none) (rm := { frames := 0, cells := 0, slots := 0, locals := 0 }) dX6_two_145 (r_is_83 (t := 16) _ _ _ _ _ _ (by decide) (isI_at)) w_X6_83 rfl (by decide) rfl ⟨by decide, by decide⟩ (by decide) (by decide) rfl (Nat.le_of_ble_eq_true rfl) (fun I145 J145 q145 => ?_)
  obtain ⟨rfl, rfl⟩ := rvv q145
  refine pw_aload_n dX6_two_148 rfl ?_
  refine pw_bipush (v := 13) dX6_two_149 (by decide) ?_
  refine pw_iconst (v := 0) dX6_two_151 (by decide) ?_
  refine pw_iconst (v := 0) dX6_two_152 (by decide) ?_
  refine pw_iconst (v := 0) dX6_two_153 (by decide) ?_
  refine pw_cVv_83 (ci := 6) (y := yX6_is) (cc := cX6_is) (nL := 5) (ret := none) (rm := { frames := 0, cells := 0, slots := 0, locals := 0 }) dX6_two_154 (r_is_83 (t := 17) _ _ _ _ _ _ (by decide) (isI_at)) w_X6_83 rfl (by decide) rfl ⟨by decide, by decide⟩ (by decide) (by decide) rfl (Nat.le_of_ble_eq_true rfl) (fun I154 J154 q154 => ?_)
  obtain ⟨rfl, rfl⟩ := rvv q154
  refine pw_vret dX6_two_157 rfl (by decide) (by decide) ?_
  exact ⟨rfl, rfl, rfl, rfl, rfl⟩
set_option maxRecDepth 100000 in
set_option maxHeartbeats 4000000 in
theorem r_bakery_83 (I : pI) (J : pJ) (h0 : I 64 23 = nI 0) : pMet yX6_bakery (pws yX6_bakery cX6_bakery 1 none) { frames := 1, cells := 0, slots := 0, locals := 24 } [.ref 64] 83 I J pRs (pOv_83 (fun I' J' => I' = isL xs_bakery 0 I ∧ J' = J)) := by
  refine pMet_of (by decide) (Nat.le_of_ble_eq_true rfl) ?_
  refine pw_aload_n dX6_bakery_0 rfl ?_
  refine pw_iconst (v := 0) dX6_bakery_1 (by decide) ?_
  refine pw_iconst (v := 2) dX6_bakery_2 (by decide) ?_
  refine pw_iconst (v := 1) dX6_bakery_3 (by decide) ?_
  refine pw_iconst (v := 0) dX6_bakery_4 (by decide) ?_
  refine pw_cVv_83 (ci := 6) (y := yX6_is) (cc := cX6_is) (nL := 5) (ret := none) (rm := { frames := 0, cells := 0, slots := 0, locals := 0 }) dX6_bakery_5 (r_is_83 (t := 0) _ _ _ _ _ _ (by decide) (h0)) w_X6_83 rfl (by decide) rfl ⟨by decide, by decide⟩ (by decide) (by decide) rfl (Nat.le_of_ble_eq_true rfl) (fun I5 J5 q5 => ?_)
  obtain ⟨rfl, rfl⟩ := rvv q5
  refine pw_aload_n dX6_bakery_8 rfl ?_
  refine pw_bipush (v := 8) dX6_bakery_9 (by decide) ?_
  refine pw_iconst (v := 2) dX6_bakery_11 (by decide) ?_
  refine pw_iconst (v := 0) dX6_bakery_12 (by decide) ?_
  refine pw_iconst (v := 0) dX6_bakery_13 (by decide) ?_
  refine pw_cVv_83 (ci := 6) (y := yX6_is) (cc := cX6_is) (nL := 5) (ret := none) (rm := { frames := 0, cells := 0, slots := 0, locals := 0 }) dX6_bakery_14 (r_is_83 (t := 1) _ _ _ _ _ _ (by decide) (isI_at)) w_X6_83 rfl (by decide) rfl ⟨by decide, by decide⟩ (by decide) (by decide) rfl (Nat.le_of_ble_eq_true rfl) (fun I14 J14 q14 => ?_)
  obtain ⟨rfl, rfl⟩ := rvv q14
  refine pw_aload_n dX6_bakery_17 rfl ?_
  refine pw_iconst (v := 0) dX6_bakery_18 (by decide) ?_
  refine pw_iconst (v := 3) dX6_bakery_19 (by decide) ?_
  refine pw_iconst (v := 0) dX6_bakery_20 (by decide) ?_
  refine pw_iconst (v := 0) dX6_bakery_21 (by decide) ?_
  refine pw_cVv_83 (ci := 6) (y := yX6_is) (cc := cX6_is) (nL := 5) (ret := none) (rm := { frames := 0, cells := 0, slots := 0, locals := 0 }) dX6_bakery_22 (r_is_83 (t := 2) _ _ _ _ _ _ (by decide) (isI_at)) w_X6_83 rfl (by decide) rfl ⟨by decide, by decide⟩ (by decide) (by decide) rfl (Nat.le_of_ble_eq_true rfl) (fun I22 J22 q22 => ?_)
  obtain ⟨rfl, rfl⟩ := rvv q22
  refine pw_aload_n dX6_bakery_25 rfl ?_
  refine pw_iconst (v := 0) dX6_bakery_26 (by decide) ?_
  refine pw_iconst (v := 4) dX6_bakery_27 (by decide) ?_
  refine pw_iconst (v := 0) dX6_bakery_28 (by decide) ?_
  refine pw_iconst (v := 0) dX6_bakery_29 (by decide) ?_
  refine pw_cVv_83 (ci := 6) (y := yX6_is) (cc := cX6_is) (nL := 5) (ret := none) (rm := { frames := 0, cells := 0, slots := 0, locals := 0 }) dX6_bakery_30 (r_is_83 (t := 3) _ _ _ _ _ _ (by decide) (isI_at)) w_X6_83 rfl (by decide) rfl ⟨by decide, by decide⟩ (by decide) (by decide) rfl (Nat.le_of_ble_eq_true rfl) (fun I30 J30 q30 => ?_)
  obtain ⟨rfl, rfl⟩ := rvv q30
  refine pw_aload_n dX6_bakery_33 rfl ?_
  refine pw_iconst (v := 3) dX6_bakery_34 (by decide) ?_
  refine pw_iconst (v := 4) dX6_bakery_35 (by decide) ?_
  refine pw_iconst (v := 1) dX6_bakery_36 (by decide) ?_
  refine pw_bipush (v := 10) dX6_bakery_37 (by decide) ?_
  refine pw_cVv_83 (ci := 6) (y := yX6_is) (cc := cX6_is) (nL := 5) (ret := none) (rm := { frames := 0, cells := 0, slots := 0, locals := 0 }) dX6_bakery_39 (r_is_83 (t := 4) _ _ _ _ _ _ (by decide) (isI_at)) w_X6_83 rfl (by decide) rfl ⟨by decide, by decide⟩ (by decide) (by decide) rfl (Nat.le_of_ble_eq_true rfl) (fun I39 J39 q39 => ?_)
  obtain ⟨rfl, rfl⟩ := rvv q39
  refine pw_aload_n dX6_bakery_42 rfl ?_
  refine pw_bipush (v := 7) dX6_bakery_43 (by decide) ?_
  refine pw_iconst (v := 5) dX6_bakery_45 (by decide) ?_
  refine pw_iconst (v := 3) dX6_bakery_46 (by decide) ?_
  refine pw_iconst (v := 4) dX6_bakery_47 (by decide) ?_
  refine pw_cVv_83 (ci := 6) (y := yX6_is) (cc := cX6_is) (nL := 5) (ret := none) (rm := { frames := 0, cells := 0, slots := 0, locals := 0 }) dX6_bakery_48 (r_is_83 (t := 5) _ _ _ _ _ _ (by decide) (isI_at)) w_X6_83 rfl (by decide) rfl ⟨by decide, by decide⟩ (by decide) (by decide) rfl (Nat.le_of_ble_eq_true rfl) (fun I48 J48 q48 => ?_)
  obtain ⟨rfl, rfl⟩ := rvv q48
  refine pw_aload_n dX6_bakery_51 rfl ?_
  refine pw_iconst (v := 4) dX6_bakery_52 (by decide) ?_
  refine pw_iconst (v := 5) dX6_bakery_53 (by decide) ?_
  refine pw_iconst (v := 3) dX6_bakery_54 (by decide) ?_
  refine pw_bipush (v := 8) dX6_bakery_55 (by decide) ?_
  refine pw_cVv_83 (ci := 6) (y := yX6_is) (cc := cX6_is) (nL := 5) (ret := none) (rm := { frames := 0, cells := 0, slots := 0, locals := 0 }) dX6_bakery_57 (r_is_83 (t := 6) _ _ _ _ _ _ (by decide) (isI_at)) w_X6_83 rfl (by decide) rfl ⟨by decide, by decide⟩ (by decide) (by decide) rfl (Nat.le_of_ble_eq_true rfl) (fun I57 J57 q57 => ?_)
  obtain ⟨rfl, rfl⟩ := rvv q57
  refine pw_aload_n dX6_bakery_60 rfl ?_
  refine pw_iconst (v := 2) dX6_bakery_61 (by decide) ?_
  refine pw_iconst (v := 3) dX6_bakery_62 (by decide) ?_
  refine pw_iconst (v := 5) dX6_bakery_63 (by decide) ?_
  refine pw_iconst (v := 0) dX6_bakery_64 (by decide) ?_
  refine pw_cVv_83 (ci := 6) (y := yX6_is) (cc := cX6_is) (nL := 5) (ret := none) (rm := { frames := 0, cells := 0, slots := 0, locals := 0 }) dX6_bakery_65 (r_is_83 (t := 7) _ _ _ _ _ _ (by decide) (isI_at)) w_X6_83 rfl (by decide) rfl ⟨by decide, by decide⟩ (by decide) (by decide) rfl (Nat.le_of_ble_eq_true rfl) (fun I65 J65 q65 => ?_)
  obtain ⟨rfl, rfl⟩ := rvv q65
  refine pw_aload_n dX6_bakery_68 rfl ?_
  refine pw_iconst (v := 1) dX6_bakery_69 (by decide) ?_
  refine pw_iconst (v := 4) dX6_bakery_70 (by decide) ?_
  refine pw_iconst (v := 1) dX6_bakery_71 (by decide) ?_
  refine pw_iconst (v := 0) dX6_bakery_72 (by decide) ?_
  refine pw_cVv_83 (ci := 6) (y := yX6_is) (cc := cX6_is) (nL := 5) (ret := none) (rm := { frames := 0, cells := 0, slots := 0, locals := 0 }) dX6_bakery_73 (r_is_83 (t := 8) _ _ _ _ _ _ (by decide) (isI_at)) w_X6_83 rfl (by decide) rfl ⟨by decide, by decide⟩ (by decide) (by decide) rfl (Nat.le_of_ble_eq_true rfl) (fun I73 J73 q73 => ?_)
  obtain ⟨rfl, rfl⟩ := rvv q73
  refine pw_aload_n dX6_bakery_76 rfl ?_
  refine pw_iconst (v := 5) dX6_bakery_77 (by decide) ?_
  refine pw_iconst (v := 0) dX6_bakery_78 (by decide) ?_
  refine pw_iconst (v := 0) dX6_bakery_79 (by decide) ?_
  refine pw_iconst (v := 4) dX6_bakery_80 (by decide) ?_
  refine pw_cVv_83 (ci := 6) (y := yX6_is) (cc := cX6_is) (nL := 5) (ret := none) (rm := { frames := 0, cells := 0, slots := 0, locals := 0 }) dX6_bakery_81 (r_is_83 (t := 9) _ _ _ _ _ _ (by decide) (isI_at)) w_X6_83 rfl (by decide) rfl ⟨by decide, by decide⟩ (by decide) (by decide) rfl (Nat.le_of_ble_eq_true rfl) (fun I81 J81 q81 => ?_)
  obtain ⟨rfl, rfl⟩ := rvv q81
  refine pw_aload_n dX6_bakery_84 rfl ?_
  refine pw_iconst (v := 1) dX6_bakery_85 (by decide) ?_
  refine pw_iconst (v := 3) dX6_bakery_86 (by decide) ?_
  refine pw_iconst (v := 1) dX6_bakery_87 (by decide) ?_
  refine pw_iconst (v := 0) dX6_bakery_88 (by decide) ?_
  refine pw_cVv_83 (ci := 6) (y := yX6_is) (cc := cX6_is) (nL := 5) (ret := none) (rm := { frames := 0, cells := 0, slots := 0, locals := 0 }) dX6_bakery_89 (r_is_83 (t := 10) _ _ _ _ _ _ (by decide) (isI_at)) w_X6_83 rfl (by decide) rfl ⟨by decide, by decide⟩ (by decide) (by decide) rfl (Nat.le_of_ble_eq_true rfl) (fun I89 J89 q89 => ?_)
  obtain ⟨rfl, rfl⟩ := rvv q89
  refine pw_aload_n dX6_bakery_92 rfl ?_
  refine pw_bipush (v := 8) dX6_bakery_93 (by decide) ?_
  refine pw_iconst (v := 3) dX6_bakery_95 (by decide) ?_
  refine pw_iconst (v := 3) dX6_bakery_96 (by decide) ?_
  refine pw_iconst (v := 0) dX6_bakery_97 (by decide) ?_
  refine pw_cVv_83 (ci := 6) (y := yX6_is) (cc := cX6_is) (nL := 5) (ret := none) (rm := { frames := 0, cells := 0, slots := 0, locals := 0 }) dX6_bakery_98 (r_is_83 (t := 11) _ _ _ _ _ _ (by decide) (isI_at)) w_X6_83 rfl (by decide) rfl ⟨by decide, by decide⟩ (by decide) (by decide) rfl (Nat.le_of_ble_eq_true rfl) (fun I98 J98 q98 => ?_)
  obtain ⟨rfl, rfl⟩ := rvv q98
  refine pw_aload_n dX6_bakery_101 rfl ?_
  refine pw_iconst (v := 0) dX6_bakery_102 (by decide) ?_
  refine pw_iconst (v := 2) dX6_bakery_103 (by decide) ?_
  refine pw_iconst (v := 0) dX6_bakery_104 (by decide) ?_
  refine pw_iconst (v := 0) dX6_bakery_105 (by decide) ?_
  refine pw_cVv_83 (ci := 6) (y := yX6_is) (cc := cX6_is) (nL := 5) (ret := none) (rm := { frames := 0, cells := 0, slots := 0, locals := 0 }) dX6_bakery_106 (r_is_83 (t := 12) _ _ _ _ _ _ (by decide) (isI_at)) w_X6_83 rfl (by decide) rfl ⟨by decide, by decide⟩ (by decide) (by decide) rfl (Nat.le_of_ble_eq_true rfl) (fun I106 J106 q106 => ?_)
  obtain ⟨rfl, rfl⟩ := rvv q106
  refine pw_aload_n dX6_bakery_109 rfl ?_
  refine pw_bipush (v := 8) dX6_bakery_110 (by decide) ?_
  refine pw_iconst (v := 2) dX6_bakery_112 (by decide) ?_
  refine pw_iconst (v := 0) dX6_bakery_113 (by decide) ?_
  refine pw_iconst (v := 0) dX6_bakery_114 (by decide) ?_
  refine pw_cVv_83 (ci := 6) (y := yX6_is) (cc := cX6_is) (nL := 5) (ret := none) (rm := { frames := 0, cells := 0, slots := 0, locals := 0 }) dX6_bakery_115 (r_is_83 (t := 13) _ _ _ _ _ _ (by decide) (isI_at)) w_X6_83 rfl (by decide) rfl ⟨by decide, by decide⟩ (by decide) (by decide) rfl (Nat.le_of_ble_eq_true rfl) (fun I115 J115 q115 => ?_)
  obtain ⟨rfl, rfl⟩ := rvv q115
  refine pw_aload_n dX6_bakery_118 rfl ?_
  refine pw_bipush (v := 6) dX6_bakery_119 (by decide) ?_
  refine pw_iconst (v := 0) dX6_bakery_121 (by decide) ?_
  refine pw_iconst (v := 0) dX6_bakery_122 (by decide) ?_
  refine pw_iconst (v := 0) dX6_bakery_123 (by decide) ?_
  refine pw_cVv_83 (ci := 6) (y := yX6_is) (cc := cX6_is) (nL := 5) (ret := none) (rm := { frames := 0, cells := 0, slots := 0, locals := 0 }) dX6_bakery_124 (r_is_83 (t := 14) _ _ _ _ _ _ (by decide) (isI_at)) w_X6_83 rfl (by decide) rfl ⟨by decide, by decide⟩ (by decide) (by decide) rfl (Nat.le_of_ble_eq_true rfl) (fun I124 J124 q124 => ?_)
  obtain ⟨rfl, rfl⟩ := rvv q124
  refine pw_aload_n dX6_bakery_127 rfl ?_
  refine pw_iconst (v := 0) dX6_bakery_128 (by decide) ?_
  refine pw_iconst (v := 4) dX6_bakery_129 (by decide) ?_
  refine pw_iconst (v := 0) dX6_bakery_130 (by decide) ?_
  refine pw_iconst (v := 0) dX6_bakery_131 (by decide) ?_
  refine pw_cVv_83 (ci := 6) (y := yX6_is) (cc := cX6_is) (nL := 5) (ret := none) (rm := { frames := 0, cells := 0, slots := 0, locals := 0 }) dX6_bakery_132 (r_is_83 (t := 15) _ _ _ _ _ _ (by decide) (isI_at)) w_X6_83 rfl (by decide) rfl ⟨by decide, by decide⟩ (by decide) (by decide) rfl (Nat.le_of_ble_eq_true rfl) (fun I132 J132 q132 => ?_)
  obtain ⟨rfl, rfl⟩ := rvv q132
  refine pw_aload_n dX6_bakery_135 rfl ?_
  refine pw_iconst (v := 3) dX6_bakery_136 (by decide) ?_
  refine pw_iconst (v := 4) dX6_bakery_137 (by decide) ?_
  refine pw_iconst (v := 1) dX6_bakery_138 (by decide) ?_
  refine pw_bipush (v := 30) dX6_bakery_139 (by decide) ?_
  refine pw_cVv_83 (ci := 6) (y := yX6_is) (cc := cX6_is) (nL := 5) (ret := none) (rm := { frames := 0, cells := 0, slots := 0, locals := 0 }) dX6_bakery_141 (r_is_83 (t := 16) _ _ _ _ _ _ (by decide) (isI_at)) w_X6_83 rfl (by decide) rfl ⟨by decide, by decide⟩ (by decide) (by decide) rfl (Nat.le_of_ble_eq_true rfl) (fun I141 J141 q141 => ?_)
  obtain ⟨rfl, rfl⟩ := rvv q141
  refine pw_aload_n dX6_bakery_144 rfl ?_
  refine pw_iconst (v := 3) dX6_bakery_145 (by decide) ?_
  refine pw_iconst (v := 4) dX6_bakery_146 (by decide) ?_
  refine pw_iconst (v := 0) dX6_bakery_147 (by decide) ?_
  refine pw_bipush (v := 28) dX6_bakery_148 (by decide) ?_
  refine pw_cVv_83 (ci := 6) (y := yX6_is) (cc := cX6_is) (nL := 5) (ret := none) (rm := { frames := 0, cells := 0, slots := 0, locals := 0 }) dX6_bakery_150 (r_is_83 (t := 17) _ _ _ _ _ _ (by decide) (isI_at)) w_X6_83 rfl (by decide) rfl ⟨by decide, by decide⟩ (by decide) (by decide) rfl (Nat.le_of_ble_eq_true rfl) (fun I150 J150 q150 => ?_)
  obtain ⟨rfl, rfl⟩ := rvv q150
  refine pw_aload_n dX6_bakery_153 rfl ?_
  refine pw_bipush (v := 7) dX6_bakery_154 (by decide) ?_
  refine pw_iconst (v := 5) dX6_bakery_156 (by decide) ?_
  refine pw_iconst (v := 0) dX6_bakery_157 (by decide) ?_
  refine pw_iconst (v := 4) dX6_bakery_158 (by decide) ?_
  refine pw_cVv_83 (ci := 6) (y := yX6_is) (cc := cX6_is) (nL := 5) (ret := none) (rm := { frames := 0, cells := 0, slots := 0, locals := 0 }) dX6_bakery_159 (r_is_83 (t := 18) _ _ _ _ _ _ (by decide) (isI_at)) w_X6_83 rfl (by decide) rfl ⟨by decide, by decide⟩ (by decide) (by decide) rfl (Nat.le_of_ble_eq_true rfl) (fun I159 J159 q159 => ?_)
  obtain ⟨rfl, rfl⟩ := rvv q159
  refine pw_aload_n dX6_bakery_162 rfl ?_
  refine pw_iconst (v := 3) dX6_bakery_163 (by decide) ?_
  refine pw_iconst (v := 5) dX6_bakery_164 (by decide) ?_
  refine pw_iconst (v := 2) dX6_bakery_165 (by decide) ?_
  refine pw_bipush (v := 21) dX6_bakery_166 (by decide) ?_
  refine pw_cVv_83 (ci := 6) (y := yX6_is) (cc := cX6_is) (nL := 5) (ret := none) (rm := { frames := 0, cells := 0, slots := 0, locals := 0 }) dX6_bakery_168 (r_is_83 (t := 19) _ _ _ _ _ _ (by decide) (isI_at)) w_X6_83 rfl (by decide) rfl ⟨by decide, by decide⟩ (by decide) (by decide) rfl (Nat.le_of_ble_eq_true rfl) (fun I168 J168 q168 => ?_)
  obtain ⟨rfl, rfl⟩ := rvv q168
  refine pw_aload_n dX6_bakery_171 rfl ?_
  refine pw_iconst (v := 5) dX6_bakery_172 (by decide) ?_
  refine pw_iconst (v := 0) dX6_bakery_173 (by decide) ?_
  refine pw_iconst (v := 0) dX6_bakery_174 (by decide) ?_
  refine pw_bipush (v := 18) dX6_bakery_175 (by decide) ?_
  refine pw_cVv_83 (ci := 6) (y := yX6_is) (cc := cX6_is) (nL := 5) (ret := none) (rm := { frames := 0, cells := 0, slots := 0, locals := 0 }) dX6_bakery_177 (r_is_83 (t := 20) _ _ _ _ _ _ (by decide) (isI_at)) w_X6_83 rfl (by decide) rfl ⟨by decide, by decide⟩ (by decide) (by decide) rfl (Nat.le_of_ble_eq_true rfl) (fun I177 J177 q177 => ?_)
  obtain ⟨rfl, rfl⟩ := rvv q177
  refine pw_aload_n dX6_bakery_180 rfl ?_
  refine pw_bipush (v := 7) dX6_bakery_181 (by decide) ?_
  refine pw_iconst (v := 5) dX6_bakery_183 (by decide) ?_
  refine pw_iconst (v := 3) dX6_bakery_184 (by decide) ?_
  refine pw_iconst (v := 4) dX6_bakery_185 (by decide) ?_
  refine pw_cVv_83 (ci := 6) (y := yX6_is) (cc := cX6_is) (nL := 5) (ret := none) (rm := { frames := 0, cells := 0, slots := 0, locals := 0 }) dX6_bakery_186 (r_is_83 (t := 21) _ _ _ _ _ _ (by decide) (isI_at)) w_X6_83 rfl (by decide) rfl ⟨by decide, by decide⟩ (by decide) (by decide) rfl (Nat.le_of_ble_eq_true rfl) (fun I186 J186 q186 => ?_)
  obtain ⟨rfl, rfl⟩ := rvv q186
  refine pw_aload_n dX6_bakery_189 rfl ?_
  refine pw_iconst (v := 3) dX6_bakery_190 (by decide) ?_
  refine pw_iconst (v := 5) dX6_bakery_191 (by decide) ?_
  refine pw_iconst (v := 2) dX6_bakery_192 (by decide) ?_
  refine pw_bipush (v := 28) dX6_bakery_193 (by decide) ?_
  refine pw_cVv_83 (ci := 6) (y := yX6_is) (cc := cX6_is) (nL := 5) (ret := none) (rm := { frames := 0, cells := 0, slots := 0, locals := 0 }) dX6_bakery_195 (r_is_83 (t := 22) _ _ _ _ _ _ (by decide) (isI_at)) w_X6_83 rfl (by decide) rfl ⟨by decide, by decide⟩ (by decide) (by decide) rfl (Nat.le_of_ble_eq_true rfl) (fun I195 J195 q195 => ?_)
  obtain ⟨rfl, rfl⟩ := rvv q195
  refine pw_aload_n dX6_bakery_198 rfl ?_
  refine pw_iconst (v := 4) dX6_bakery_199 (by decide) ?_
  refine pw_iconst (v := 5) dX6_bakery_200 (by decide) ?_
  refine pw_iconst (v := 3) dX6_bakery_201 (by decide) ?_
  refine pw_bipush (v := 21) dX6_bakery_202 (by decide) ?_
  refine pw_cVv_83 (ci := 6) (y := yX6_is) (cc := cX6_is) (nL := 5) (ret := none) (rm := { frames := 0, cells := 0, slots := 0, locals := 0 }) dX6_bakery_204 (r_is_83 (t := 23) _ _ _ _ _ _ (by decide) (isI_at)) w_X6_83 rfl (by decide) rfl ⟨by decide, by decide⟩ (by decide) (by decide) rfl (Nat.le_of_ble_eq_true rfl) (fun I204 J204 q204 => ?_)
  obtain ⟨rfl, rfl⟩ := rvv q204
  refine pw_aload_n dX6_bakery_207 rfl ?_
  refine pw_iconst (v := 3) dX6_bakery_208 (by decide) ?_
  refine pw_iconst (v := 5) dX6_bakery_209 (by decide) ?_
  refine pw_iconst (v := 3) dX6_bakery_210 (by decide) ?_
  refine pw_bipush (v := 26) dX6_bakery_211 (by decide) ?_
  refine pw_cVv_83 (ci := 6) (y := yX6_is) (cc := cX6_is) (nL := 5) (ret := none) (rm := { frames := 0, cells := 0, slots := 0, locals := 0 }) dX6_bakery_213 (r_is_83 (t := 24) _ _ _ _ _ _ (by decide) (isI_at)) w_X6_83 rfl (by decide) rfl ⟨by decide, by decide⟩ (by decide) (by decide) rfl (Nat.le_of_ble_eq_true rfl) (fun I213 J213 q213 => ?_)
  obtain ⟨rfl, rfl⟩ := rvv q213
  refine pw_aload_n dX6_bakery_216 rfl ?_
  refine pw_iconst (v := 5) dX6_bakery_217 (by decide) ?_
  refine pw_iconst (v := 0) dX6_bakery_218 (by decide) ?_
  refine pw_iconst (v := 0) dX6_bakery_219 (by decide) ?_
  refine pw_bipush (v := 28) dX6_bakery_220 (by decide) ?_
  refine pw_cVv_83 (ci := 6) (y := yX6_is) (cc := cX6_is) (nL := 5) (ret := none) (rm := { frames := 0, cells := 0, slots := 0, locals := 0 }) dX6_bakery_222 (r_is_83 (t := 25) _ _ _ _ _ _ (by decide) (isI_at)) w_X6_83 rfl (by decide) rfl ⟨by decide, by decide⟩ (by decide) (by decide) rfl (Nat.le_of_ble_eq_true rfl) (fun I222 J222 q222 => ?_)
  obtain ⟨rfl, rfl⟩ := rvv q222
  refine pw_aload_n dX6_bakery_225 rfl ?_
  refine pw_iconst (v := 4) dX6_bakery_226 (by decide) ?_
  refine pw_iconst (v := 4) dX6_bakery_227 (by decide) ?_
  refine pw_iconst (v := 0) dX6_bakery_228 (by decide) ?_
  refine pw_bipush (v := 21) dX6_bakery_229 (by decide) ?_
  refine pw_cVv_83 (ci := 6) (y := yX6_is) (cc := cX6_is) (nL := 5) (ret := none) (rm := { frames := 0, cells := 0, slots := 0, locals := 0 }) dX6_bakery_231 (r_is_83 (t := 26) _ _ _ _ _ _ (by decide) (isI_at)) w_X6_83 rfl (by decide) rfl ⟨by decide, by decide⟩ (by decide) (by decide) rfl (Nat.le_of_ble_eq_true rfl) (fun I231 J231 q231 => ?_)
  obtain ⟨rfl, rfl⟩ := rvv q231
  refine pw_aload_n dX6_bakery_234 rfl ?_
  refine pw_iconst (v := 5) dX6_bakery_235 (by decide) ?_
  refine pw_iconst (v := 0) dX6_bakery_236 (by decide) ?_
  refine pw_iconst (v := 0) dX6_bakery_237 (by decide) ?_
  refine pw_bipush (v := 28) dX6_bakery_238 (by decide) ?_
  refine pw_cVv_83 (ci := 6) (y := yX6_is) (cc := cX6_is) (nL := 5) (ret := none) (rm := { frames := 0, cells := 0, slots := 0, locals := 0 }) dX6_bakery_240 (r_is_83 (t := 27) _ _ _ _ _ _ (by decide) (isI_at)) w_X6_83 rfl (by decide) rfl ⟨by decide, by decide⟩ (by decide) (by decide) rfl (Nat.le_of_ble_eq_true rfl) (fun I240 J240 q240 => ?_)
  obtain ⟨rfl, rfl⟩ := rvv q240
  refine pw_aload_n dX6_bakery_243 rfl ?_
  refine pw_iconst (v := 1) dX6_bakery_244 (by decide) ?_
  refine pw_iconst (v := 4) dX6_bakery_245 (by decide) ?_
  refine pw_iconst (v := 1) dX6_bakery_246 (by decide) ?_
  refine pw_iconst (v := 0) dX6_bakery_247 (by decide) ?_
  refine pw_cVv_83 (ci := 6) (y := yX6_is) (cc := cX6_is) (nL := 5) (ret := none) (rm := { frames := 0, cells := 0, slots := 0, locals := 0 }) dX6_bakery_248 (r_is_83 (t := 28) _ _ _ _ _ _ (by decide) (isI_at)) w_X6_83 rfl (by decide) rfl ⟨by decide, by decide⟩ (by decide) (by decide) rfl (Nat.le_of_ble_eq_true rfl) (fun I248 J248 q248 => ?_)
  obtain ⟨rfl, rfl⟩ := rvv q248
  refine pw_aload_n dX6_bakery_251 rfl ?_
  refine pw_iconst (v := 5) dX6_bakery_252 (by decide) ?_
  refine pw_iconst (v := 0) dX6_bakery_253 (by decide) ?_
  refine pw_iconst (v := 0) dX6_bakery_254 (by decide) ?_
  refine pw_bipush (v := 16) dX6_bakery_255 (by decide) ?_
  refine pw_cVv_83 (ci := 6) (y := yX6_is) (cc := cX6_is) (nL := 5) (ret := none) (rm := { frames := 0, cells := 0, slots := 0, locals := 0 }) dX6_bakery_257 (r_is_83 (t := 29) _ _ _ _ _ _ (by decide) (isI_at)) w_X6_83 rfl (by decide) rfl ⟨by decide, by decide⟩ (by decide) (by decide) rfl (Nat.le_of_ble_eq_true rfl) (fun I257 J257 q257 => ?_)
  obtain ⟨rfl, rfl⟩ := rvv q257
  refine pw_aload_n dX6_bakery_260 rfl ?_
  refine pw_bipush (v := 12) dX6_bakery_261 (by decide) ?_
  refine pw_iconst (v := 0) dX6_bakery_263 (by decide) ?_
  refine pw_iconst (v := 0) dX6_bakery_264 (by decide) ?_
  refine pw_iconst (v := 0) dX6_bakery_265 (by decide) ?_
  refine pw_cVv_83 (ci := 6) (y := yX6_is) (cc := cX6_is) (nL := 5) (ret := none) (rm := { frames := 0, cells := 0, slots := 0, locals := 0 }) dX6_bakery_266 (r_is_83 (t := 30) _ _ _ _ _ _ (by decide) (isI_at)) w_X6_83 rfl (by decide) rfl ⟨by decide, by decide⟩ (by decide) (by decide) rfl (Nat.le_of_ble_eq_true rfl) (fun I266 J266 q266 => ?_)
  obtain ⟨rfl, rfl⟩ := rvv q266
  refine pw_aload_n dX6_bakery_269 rfl ?_
  refine pw_bipush (v := 8) dX6_bakery_270 (by decide) ?_
  refine pw_iconst (v := 2) dX6_bakery_272 (by decide) ?_
  refine pw_iconst (v := 3) dX6_bakery_273 (by decide) ?_
  refine pw_iconst (v := 0) dX6_bakery_274 (by decide) ?_
  refine pw_cVv_83 (ci := 6) (y := yX6_is) (cc := cX6_is) (nL := 5) (ret := none) (rm := { frames := 0, cells := 0, slots := 0, locals := 0 }) dX6_bakery_275 (r_is_83 (t := 31) _ _ _ _ _ _ (by decide) (isI_at)) w_X6_83 rfl (by decide) rfl ⟨by decide, by decide⟩ (by decide) (by decide) rfl (Nat.le_of_ble_eq_true rfl) (fun I275 J275 q275 => ?_)
  obtain ⟨rfl, rfl⟩ := rvv q275
  refine pw_aload_n dX6_bakery_278 rfl ?_
  refine pw_bipush (v := 13) dX6_bakery_279 (by decide) ?_
  refine pw_iconst (v := 0) dX6_bakery_281 (by decide) ?_
  refine pw_iconst (v := 0) dX6_bakery_282 (by decide) ?_
  refine pw_iconst (v := 0) dX6_bakery_283 (by decide) ?_
  refine pw_cVv_83 (ci := 6) (y := yX6_is) (cc := cX6_is) (nL := 5) (ret := none) (rm := { frames := 0, cells := 0, slots := 0, locals := 0 }) dX6_bakery_284 (r_is_83 (t := 32) _ _ _ _ _ _ (by decide) (isI_at)) w_X6_83 rfl (by decide) rfl ⟨by decide, by decide⟩ (by decide) (by decide) rfl (Nat.le_of_ble_eq_true rfl) (fun I284 J284 q284 => ?_)
  obtain ⟨rfl, rfl⟩ := rvv q284
  refine pw_vret dX6_bakery_287 rfl (by decide) (by decide) ?_
  exact ⟨rfl, rfl, rfl, rfl, rfl⟩
set_option maxRecDepth 100000 in
set_option maxHeartbeats 4000000 in
theorem r_levels_83 (I : pI) (J : pJ) (h0 : I 64 23 = nI 0) : pMet yX6_levels (pws yX6_levels cX6_levels 1 none) { frames := 1, cells := 0, slots := 0, locals := 24 } [.ref 64] 83 I J pRs (pOv_83 (fun I' J' => I' = isL xs_levels 0 I ∧ J' = J)) := by
  refine pMet_of (by decide) (Nat.le_of_ble_eq_true rfl) ?_
  refine pw_aload_n dX6_levels_0 rfl ?_
  refine pw_iconst (v := 0) dX6_levels_1 (by decide) ?_
  refine pw_iconst (v := 2) dX6_levels_2 (by decide) ?_
  refine pw_iconst (v := 1) dX6_levels_3 (by decide) ?_
  refine pw_iconst (v := 0) dX6_levels_4 (by decide) ?_
  refine pw_cVv_83 (ci := 6) (y := yX6_is) (cc := cX6_is) (nL := 5) (ret := none) (rm := { frames := 0, cells := 0, slots := 0, locals := 0 }) dX6_levels_5 (r_is_83 (t := 0) _ _ _ _ _ _ (by decide) (h0)) w_X6_83 rfl (by decide) rfl ⟨by decide, by decide⟩ (by decide) (by decide) rfl (Nat.le_of_ble_eq_true rfl) (fun I5 J5 q5 => ?_)
  obtain ⟨rfl, rfl⟩ := rvv q5
  refine pw_aload_n dX6_levels_8 rfl ?_
  refine pw_iconst (v := 3) dX6_levels_9 (by decide) ?_
  refine pw_iconst (v := 2) dX6_levels_10 (by decide) ?_
  refine pw_iconst (v := 1) dX6_levels_11 (by decide) ?_
  refine pw_bipush (v := 18) dX6_levels_12 (by decide) ?_
  refine pw_cVv_83 (ci := 6) (y := yX6_is) (cc := cX6_is) (nL := 5) (ret := none) (rm := { frames := 0, cells := 0, slots := 0, locals := 0 }) dX6_levels_14 (r_is_83 (t := 1) _ _ _ _ _ _ (by decide) (isI_at)) w_X6_83 rfl (by decide) rfl ⟨by decide, by decide⟩ (by decide) (by decide) rfl (Nat.le_of_ble_eq_true rfl) (fun I14 J14 q14 => ?_)
  obtain ⟨rfl, rfl⟩ := rvv q14
  refine pw_aload_n dX6_levels_17 rfl ?_
  refine pw_bipush (v := 8) dX6_levels_18 (by decide) ?_
  refine pw_iconst (v := 2) dX6_levels_20 (by decide) ?_
  refine pw_iconst (v := 0) dX6_levels_21 (by decide) ?_
  refine pw_iconst (v := 0) dX6_levels_22 (by decide) ?_
  refine pw_cVv_83 (ci := 6) (y := yX6_is) (cc := cX6_is) (nL := 5) (ret := none) (rm := { frames := 0, cells := 0, slots := 0, locals := 0 }) dX6_levels_23 (r_is_83 (t := 2) _ _ _ _ _ _ (by decide) (isI_at)) w_X6_83 rfl (by decide) rfl ⟨by decide, by decide⟩ (by decide) (by decide) rfl (Nat.le_of_ble_eq_true rfl) (fun I23 J23 q23 => ?_)
  obtain ⟨rfl, rfl⟩ := rvv q23
  refine pw_aload_n dX6_levels_26 rfl ?_
  refine pw_bipush (v := 8) dX6_levels_27 (by decide) ?_
  refine pw_iconst (v := 0) dX6_levels_29 (by decide) ?_
  refine pw_iconst (v := 3) dX6_levels_30 (by decide) ?_
  refine pw_iconst (v := 2) dX6_levels_31 (by decide) ?_
  refine pw_cVv_83 (ci := 6) (y := yX6_is) (cc := cX6_is) (nL := 5) (ret := none) (rm := { frames := 0, cells := 0, slots := 0, locals := 0 }) dX6_levels_32 (r_is_83 (t := 3) _ _ _ _ _ _ (by decide) (isI_at)) w_X6_83 rfl (by decide) rfl ⟨by decide, by decide⟩ (by decide) (by decide) rfl (Nat.le_of_ble_eq_true rfl) (fun I32 J32 q32 => ?_)
  obtain ⟨rfl, rfl⟩ := rvv q32
  refine pw_aload_n dX6_levels_35 rfl ?_
  refine pw_iconst (v := 0) dX6_levels_36 (by decide) ?_
  refine pw_iconst (v := 4) dX6_levels_37 (by decide) ?_
  refine pw_iconst (v := 0) dX6_levels_38 (by decide) ?_
  refine pw_iconst (v := 0) dX6_levels_39 (by decide) ?_
  refine pw_cVv_83 (ci := 6) (y := yX6_is) (cc := cX6_is) (nL := 5) (ret := none) (rm := { frames := 0, cells := 0, slots := 0, locals := 0 }) dX6_levels_40 (r_is_83 (t := 4) _ _ _ _ _ _ (by decide) (isI_at)) w_X6_83 rfl (by decide) rfl ⟨by decide, by decide⟩ (by decide) (by decide) rfl (Nat.le_of_ble_eq_true rfl) (fun I40 J40 q40 => ?_)
  obtain ⟨rfl, rfl⟩ := rvv q40
  refine pw_aload_n dX6_levels_43 rfl ?_
  refine pw_iconst (v := 3) dX6_levels_44 (by decide) ?_
  refine pw_iconst (v := 4) dX6_levels_45 (by decide) ?_
  refine pw_iconst (v := 1) dX6_levels_46 (by decide) ?_
  refine pw_bipush (v := 16) dX6_levels_47 (by decide) ?_
  refine pw_cVv_83 (ci := 6) (y := yX6_is) (cc := cX6_is) (nL := 5) (ret := none) (rm := { frames := 0, cells := 0, slots := 0, locals := 0 }) dX6_levels_49 (r_is_83 (t := 5) _ _ _ _ _ _ (by decide) (isI_at)) w_X6_83 rfl (by decide) rfl ⟨by decide, by decide⟩ (by decide) (by decide) rfl (Nat.le_of_ble_eq_true rfl) (fun I49 J49 q49 => ?_)
  obtain ⟨rfl, rfl⟩ := rvv q49
  refine pw_aload_n dX6_levels_52 rfl ?_
  refine pw_iconst (v := 3) dX6_levels_53 (by decide) ?_
  refine pw_iconst (v := 4) dX6_levels_54 (by decide) ?_
  refine pw_iconst (v := 0) dX6_levels_55 (by decide) ?_
  refine pw_bipush (v := 14) dX6_levels_56 (by decide) ?_
  refine pw_cVv_83 (ci := 6) (y := yX6_is) (cc := cX6_is) (nL := 5) (ret := none) (rm := { frames := 0, cells := 0, slots := 0, locals := 0 }) dX6_levels_58 (r_is_83 (t := 6) _ _ _ _ _ _ (by decide) (isI_at)) w_X6_83 rfl (by decide) rfl ⟨by decide, by decide⟩ (by decide) (by decide) rfl (Nat.le_of_ble_eq_true rfl) (fun I58 J58 q58 => ?_)
  obtain ⟨rfl, rfl⟩ := rvv q58
  refine pw_aload_n dX6_levels_61 rfl ?_
  refine pw_bipush (v := 7) dX6_levels_62 (by decide) ?_
  refine pw_iconst (v := 5) dX6_levels_64 (by decide) ?_
  refine pw_iconst (v := 0) dX6_levels_65 (by decide) ?_
  refine pw_iconst (v := 4) dX6_levels_66 (by decide) ?_
  refine pw_cVv_83 (ci := 6) (y := yX6_is) (cc := cX6_is) (nL := 5) (ret := none) (rm := { frames := 0, cells := 0, slots := 0, locals := 0 }) dX6_levels_67 (r_is_83 (t := 7) _ _ _ _ _ _ (by decide) (isI_at)) w_X6_83 rfl (by decide) rfl ⟨by decide, by decide⟩ (by decide) (by decide) rfl (Nat.le_of_ble_eq_true rfl) (fun I67 J67 q67 => ?_)
  obtain ⟨rfl, rfl⟩ := rvv q67
  refine pw_aload_n dX6_levels_70 rfl ?_
  refine pw_iconst (v := 4) dX6_levels_71 (by decide) ?_
  refine pw_iconst (v := 5) dX6_levels_72 (by decide) ?_
  refine pw_iconst (v := 2) dX6_levels_73 (by decide) ?_
  refine pw_bipush (v := 14) dX6_levels_74 (by decide) ?_
  refine pw_cVv_83 (ci := 6) (y := yX6_is) (cc := cX6_is) (nL := 5) (ret := none) (rm := { frames := 0, cells := 0, slots := 0, locals := 0 }) dX6_levels_76 (r_is_83 (t := 8) _ _ _ _ _ _ (by decide) (isI_at)) w_X6_83 rfl (by decide) rfl ⟨by decide, by decide⟩ (by decide) (by decide) rfl (Nat.le_of_ble_eq_true rfl) (fun I76 J76 q76 => ?_)
  obtain ⟨rfl, rfl⟩ := rvv q76
  refine pw_aload_n dX6_levels_79 rfl ?_
  refine pw_bipush (v := 7) dX6_levels_80 (by decide) ?_
  refine pw_iconst (v := 5) dX6_levels_82 (by decide) ?_
  refine pw_iconst (v := 3) dX6_levels_83 (by decide) ?_
  refine pw_iconst (v := 2) dX6_levels_84 (by decide) ?_
  refine pw_cVv_83 (ci := 6) (y := yX6_is) (cc := cX6_is) (nL := 5) (ret := none) (rm := { frames := 0, cells := 0, slots := 0, locals := 0 }) dX6_levels_85 (r_is_83 (t := 9) _ _ _ _ _ _ (by decide) (isI_at)) w_X6_83 rfl (by decide) rfl ⟨by decide, by decide⟩ (by decide) (by decide) rfl (Nat.le_of_ble_eq_true rfl) (fun I85 J85 q85 => ?_)
  obtain ⟨rfl, rfl⟩ := rvv q85
  refine pw_aload_n dX6_levels_88 rfl ?_
  refine pw_iconst (v := 3) dX6_levels_89 (by decide) ?_
  refine pw_iconst (v := 5) dX6_levels_90 (by decide) ?_
  refine pw_iconst (v := 0) dX6_levels_91 (by decide) ?_
  refine pw_bipush (v := 12) dX6_levels_92 (by decide) ?_
  refine pw_cVv_83 (ci := 6) (y := yX6_is) (cc := cX6_is) (nL := 5) (ret := none) (rm := { frames := 0, cells := 0, slots := 0, locals := 0 }) dX6_levels_94 (r_is_83 (t := 10) _ _ _ _ _ _ (by decide) (isI_at)) w_X6_83 rfl (by decide) rfl ⟨by decide, by decide⟩ (by decide) (by decide) rfl (Nat.le_of_ble_eq_true rfl) (fun I94 J94 q94 => ?_)
  obtain ⟨rfl, rfl⟩ := rvv q94
  refine pw_aload_n dX6_levels_97 rfl ?_
  refine pw_iconst (v := 5) dX6_levels_98 (by decide) ?_
  refine pw_iconst (v := 0) dX6_levels_99 (by decide) ?_
  refine pw_iconst (v := 0) dX6_levels_100 (by decide) ?_
  refine pw_bipush (v := 16) dX6_levels_101 (by decide) ?_
  refine pw_cVv_83 (ci := 6) (y := yX6_is) (cc := cX6_is) (nL := 5) (ret := none) (rm := { frames := 0, cells := 0, slots := 0, locals := 0 }) dX6_levels_103 (r_is_83 (t := 11) _ _ _ _ _ _ (by decide) (isI_at)) w_X6_83 rfl (by decide) rfl ⟨by decide, by decide⟩ (by decide) (by decide) rfl (Nat.le_of_ble_eq_true rfl) (fun I103 J103 q103 => ?_)
  obtain ⟨rfl, rfl⟩ := rvv q103
  refine pw_aload_n dX6_levels_106 rfl ?_
  refine pw_iconst (v := 0) dX6_levels_107 (by decide) ?_
  refine pw_iconst (v := 4) dX6_levels_108 (by decide) ?_
  refine pw_iconst (v := 0) dX6_levels_109 (by decide) ?_
  refine pw_iconst (v := 0) dX6_levels_110 (by decide) ?_
  refine pw_cVv_83 (ci := 6) (y := yX6_is) (cc := cX6_is) (nL := 5) (ret := none) (rm := { frames := 0, cells := 0, slots := 0, locals := 0 }) dX6_levels_111 (r_is_83 (t := 12) _ _ _ _ _ _ (by decide) (isI_at)) w_X6_83 rfl (by decide) rfl ⟨by decide, by decide⟩ (by decide) (by decide) rfl (Nat.le_of_ble_eq_true rfl) (fun I111 J111 q111 => ?_)
  obtain ⟨rfl, rfl⟩ := rvv q111
  refine pw_aload_n dX6_levels_114 rfl ?_
  refine pw_iconst (v := 5) dX6_levels_115 (by decide) ?_
  refine pw_iconst (v := 0) dX6_levels_116 (by decide) ?_
  refine pw_iconst (v := 0) dX6_levels_117 (by decide) ?_
  refine pw_iconst (v := 5) dX6_levels_118 (by decide) ?_
  refine pw_cVv_83 (ci := 6) (y := yX6_is) (cc := cX6_is) (nL := 5) (ret := none) (rm := { frames := 0, cells := 0, slots := 0, locals := 0 }) dX6_levels_119 (r_is_83 (t := 13) _ _ _ _ _ _ (by decide) (isI_at)) w_X6_83 rfl (by decide) rfl ⟨by decide, by decide⟩ (by decide) (by decide) rfl (Nat.le_of_ble_eq_true rfl) (fun I119 J119 q119 => ?_)
  obtain ⟨rfl, rfl⟩ := rvv q119
  refine pw_aload_n dX6_levels_122 rfl ?_
  refine pw_iconst (v := 1) dX6_levels_123 (by decide) ?_
  refine pw_iconst (v := 4) dX6_levels_124 (by decide) ?_
  refine pw_iconst (v := 1) dX6_levels_125 (by decide) ?_
  refine pw_iconst (v := 0) dX6_levels_126 (by decide) ?_
  refine pw_cVv_83 (ci := 6) (y := yX6_is) (cc := cX6_is) (nL := 5) (ret := none) (rm := { frames := 0, cells := 0, slots := 0, locals := 0 }) dX6_levels_127 (r_is_83 (t := 14) _ _ _ _ _ _ (by decide) (isI_at)) w_X6_83 rfl (by decide) rfl ⟨by decide, by decide⟩ (by decide) (by decide) rfl (Nat.le_of_ble_eq_true rfl) (fun I127 J127 q127 => ?_)
  obtain ⟨rfl, rfl⟩ := rvv q127
  refine pw_aload_n dX6_levels_130 rfl ?_
  refine pw_iconst (v := 5) dX6_levels_131 (by decide) ?_
  refine pw_iconst (v := 0) dX6_levels_132 (by decide) ?_
  refine pw_iconst (v := 0) dX6_levels_133 (by decide) ?_
  refine pw_iconst (v := 5) dX6_levels_134 (by decide) ?_
  refine pw_cVv_83 (ci := 6) (y := yX6_is) (cc := cX6_is) (nL := 5) (ret := none) (rm := { frames := 0, cells := 0, slots := 0, locals := 0 }) dX6_levels_135 (r_is_83 (t := 15) _ _ _ _ _ _ (by decide) (isI_at)) w_X6_83 rfl (by decide) rfl ⟨by decide, by decide⟩ (by decide) (by decide) rfl (Nat.le_of_ble_eq_true rfl) (fun I135 J135 q135 => ?_)
  obtain ⟨rfl, rfl⟩ := rvv q135
  refine pw_aload_n dX6_levels_138 rfl ?_
  refine pw_iconst (v := 1) dX6_levels_139 (by decide) ?_
  refine pw_iconst (v := 2) dX6_levels_140 (by decide) ?_
  refine pw_iconst (v := 1) dX6_levels_141 (by decide) ?_
  refine pw_iconst (v := 0) dX6_levels_142 (by decide) ?_
  refine pw_cVv_83 (ci := 6) (y := yX6_is) (cc := cX6_is) (nL := 5) (ret := none) (rm := { frames := 0, cells := 0, slots := 0, locals := 0 }) dX6_levels_143 (r_is_83 (t := 16) _ _ _ _ _ _ (by decide) (isI_at)) w_X6_83 rfl (by decide) rfl ⟨by decide, by decide⟩ (by decide) (by decide) rfl (Nat.le_of_ble_eq_true rfl) (fun I143 J143 q143 => ?_)
  obtain ⟨rfl, rfl⟩ := rvv q143
  refine pw_aload_n dX6_levels_146 rfl ?_
  refine pw_iconst (v := 5) dX6_levels_147 (by decide) ?_
  refine pw_iconst (v := 0) dX6_levels_148 (by decide) ?_
  refine pw_iconst (v := 0) dX6_levels_149 (by decide) ?_
  refine pw_iconst (v := 1) dX6_levels_150 (by decide) ?_
  refine pw_cVv_83 (ci := 6) (y := yX6_is) (cc := cX6_is) (nL := 5) (ret := none) (rm := { frames := 0, cells := 0, slots := 0, locals := 0 }) dX6_levels_151 (r_is_83 (t := 17) _ _ _ _ _ _ (by decide) (isI_at)) w_X6_83 rfl (by decide) rfl ⟨by decide, by decide⟩ (by decide) (by decide) rfl (Nat.le_of_ble_eq_true rfl) (fun I151 J151 q151 => ?_)
  obtain ⟨rfl, rfl⟩ := rvv q151
  refine pw_aload_n dX6_levels_154 rfl ?_
  refine pw_bipush (v := 12) dX6_levels_155 (by decide) ?_
  refine pw_iconst (v := 0) dX6_levels_157 (by decide) ?_
  refine pw_iconst (v := 0) dX6_levels_158 (by decide) ?_
  refine pw_iconst (v := 0) dX6_levels_159 (by decide) ?_
  refine pw_cVv_83 (ci := 6) (y := yX6_is) (cc := cX6_is) (nL := 5) (ret := none) (rm := { frames := 0, cells := 0, slots := 0, locals := 0 }) dX6_levels_160 (r_is_83 (t := 18) _ _ _ _ _ _ (by decide) (isI_at)) w_X6_83 rfl (by decide) rfl ⟨by decide, by decide⟩ (by decide) (by decide) rfl (Nat.le_of_ble_eq_true rfl) (fun I160 J160 q160 => ?_)
  obtain ⟨rfl, rfl⟩ := rvv q160
  refine pw_aload_n dX6_levels_163 rfl ?_
  refine pw_iconst (v := 0) dX6_levels_164 (by decide) ?_
  refine pw_iconst (v := 2) dX6_levels_165 (by decide) ?_
  refine pw_iconst (v := 0) dX6_levels_166 (by decide) ?_
  refine pw_iconst (v := 0) dX6_levels_167 (by decide) ?_
  refine pw_cVv_83 (ci := 6) (y := yX6_is) (cc := cX6_is) (nL := 5) (ret := none) (rm := { frames := 0, cells := 0, slots := 0, locals := 0 }) dX6_levels_168 (r_is_83 (t := 19) _ _ _ _ _ _ (by decide) (isI_at)) w_X6_83 rfl (by decide) rfl ⟨by decide, by decide⟩ (by decide) (by decide) rfl (Nat.le_of_ble_eq_true rfl) (fun I168 J168 q168 => ?_)
  obtain ⟨rfl, rfl⟩ := rvv q168
  refine pw_aload_n dX6_levels_171 rfl ?_
  refine pw_bipush (v := 8) dX6_levels_172 (by decide) ?_
  refine pw_iconst (v := 2) dX6_levels_174 (by decide) ?_
  refine pw_iconst (v := 0) dX6_levels_175 (by decide) ?_
  refine pw_iconst (v := 0) dX6_levels_176 (by decide) ?_
  refine pw_cVv_83 (ci := 6) (y := yX6_is) (cc := cX6_is) (nL := 5) (ret := none) (rm := { frames := 0, cells := 0, slots := 0, locals := 0 }) dX6_levels_177 (r_is_83 (t := 20) _ _ _ _ _ _ (by decide) (isI_at)) w_X6_83 rfl (by decide) rfl ⟨by decide, by decide⟩ (by decide) (by decide) rfl (Nat.le_of_ble_eq_true rfl) (fun I177 J177 q177 => ?_)
  obtain ⟨rfl, rfl⟩ := rvv q177
  refine pw_aload_n dX6_levels_180 rfl ?_
  refine pw_bipush (v := 13) dX6_levels_181 (by decide) ?_
  refine pw_iconst (v := 0) dX6_levels_183 (by decide) ?_
  refine pw_iconst (v := 0) dX6_levels_184 (by decide) ?_
  refine pw_iconst (v := 0) dX6_levels_185 (by decide) ?_
  refine pw_cVv_83 (ci := 6) (y := yX6_is) (cc := cX6_is) (nL := 5) (ret := none) (rm := { frames := 0, cells := 0, slots := 0, locals := 0 }) dX6_levels_186 (r_is_83 (t := 21) _ _ _ _ _ _ (by decide) (isI_at)) w_X6_83 rfl (by decide) rfl ⟨by decide, by decide⟩ (by decide) (by decide) rfl (Nat.le_of_ble_eq_true rfl) (fun I186 J186 q186 => ?_)
  obtain ⟨rfl, rfl⟩ := rvv q186
  refine pw_vret dX6_levels_189 rfl (by decide) (by decide) ?_
  exact ⟨rfl, rfl, rfl, rfl, rfl⟩
set_option maxRecDepth 100000 in
set_option maxHeartbeats 4000000 in
theorem l_fill_83 (J : pJ) (Q : pQ) : ∀ (m t : Nat) (I : pI), t + m = 40 → I 64 23 = nI t → Q (.inl none) 83 (pdL m t I) J pRs → PW m_X6_fill Q 68 [(0, .ref 64)] [] 83 I J pRs 0 0 := by
  intro m
  induction m with
  | zero =>
    intro t I htm hI hQ
    refine pw_aload_n dX6_fill_68 rfl ?_
    refine pw_geti dX6_fill_69 fl_X6_80 rfl rfl (by decide) (by decide) ?_
    refine pw_bipush (v := 40) dX6_fill_72 (by decide) ?_
    refine pw_icmp_ge (tgt := 89) dX6_fill_74 (by decide) (fun h74 => ?_) (fun h74 => ?_)
    · refine pw_vret dX6_fill_89 rfl (by decide) (by decide) ?_
      exact hQ
    · exact absurd (by rw [hI]; exact nI_le (a := 40) (by omega) (by omega)) h74
  | succ m ih =>
    intro t I htm hI hQ
    refine pw_aload_n dX6_fill_68 rfl ?_
    refine pw_geti dX6_fill_69 fl_X6_80 rfl rfl (by decide) (by decide) ?_
    refine pw_bipush (v := 40) dX6_fill_72 (by decide) ?_
    refine pw_icmp_ge (tgt := 89) dX6_fill_74 (by decide) (fun h74 => ?_) (fun h74 => ?_)
    · exact absurd ((nI_leI (a := 40) (b := t) (by decide) (by omega)).mp (by rw [← hI]; exact h74)) (by omega)
    · refine pw_aload_n dX6_fill_77 rfl ?_
      refine pw_bipush (v := 13) dX6_fill_78 (by decide) ?_
      refine pw_iconst (v := 0) dX6_fill_80 (by decide) ?_
      refine pw_iconst (v := 0) dX6_fill_81 (by decide) ?_
      refine pw_iconst (v := 0) dX6_fill_82 (by decide) ?_
      refine pw_cVv_83 (ci := 6) (y := yX6_is) (cc := cX6_is) (nL := 5) (ret := none) (rm := { frames := 0, cells := 0, slots := 0, locals := 0 }) dX6_fill_83 (r_is_83 (t := t) _ _ _ _ _ _ (by omega) hI) w_X6_83 rfl (by decide) rfl ⟨by decide, by decide⟩ (by decide) (by decide) rfl (Nat.le_of_ble_eq_true rfl) (fun I83 J83 q83 => ?_)
      obtain ⟨rfl, rfl⟩ := rvv q83
      refine pw_goto (tgt := 68) dX6_fill_86 (by decide) ?_
      exact ih (t + 1) _ (by omega) isI_at hQ
set_option maxRecDepth 100000 in
set_option maxHeartbeats 4000000 in
theorem r_fill_83 (x : Int32) (I : pI) (J : pJ) : pMet yX6_fill (pws yX6_fill cX6_fill 2 none) { frames := 2, cells := 0, slots := 0, locals := 44 } [.ref 64, .int x] 83 I J pRs (pOv_83 (fun I' J' => I' = flI I x ∧ J' = J)) := by
  refine pMet_of (by decide) (Nat.le_of_ble_eq_true rfl) ?_
  refine pw_aload_n dX6_fill_0 rfl ?_
  refine pw_iconst (v := 0) dX6_fill_1 (by decide) ?_
  refine pw_puti dX6_fill_2 fl_X6_80 rfl rfl rfl rfl rfl (by decide) (by decide) ?_
  refine pw_iload_n dX6_fill_5 rfl ?_
  refine pw_tsw dX6_fill_6 (fun i6 hi6 s6 => ?_) (fun o6 => ?_)
  · rcases (show i6 = 0 ∨ i6 = 1 ∨ i6 = 2 ∨ i6 = 3 by omega) with rfl | rfl | rfl | rfl
    · replace s6 := s6.trans (show _ = (1 : Int32) by decide)
      refine ⟨_, 36, rfl, by decide, ?_⟩
      refine pw_aload_n dX6_fill_36 rfl ?_
      refine pw_cVv_83 (ci := 6) (y := yX6_swaps) (cc := cX6_swaps) (nL := 1) (ret := none) (rm := { frames := 1, cells := 0, slots := 0, locals := 24 }) dX6_fill_37 (r_swaps_83 _ _ (upI_s _ _ _ _)) w_X6_87 rfl (by decide) rfl ⟨by decide, by decide⟩ (by decide) (by decide) rfl (Nat.le_of_ble_eq_true rfl) (fun I37 J37 q37 => ?_)
      obtain ⟨rfl, rfl⟩ := rvv q37
      refine pw_goto (tgt := 68) dX6_fill_40 (by decide) ?_
      refine pw_loc (L' := [(0, .ref 64)]) rfl ?_
      have e9 : xsOf x = xs_swaps := by simp [xsOf, s6]
      exact l_fill_83 J _ (40 - xs_swaps.length) xs_swaps.length _ (by decide) (by rw [isL_at _ 0 _ ((upI_s _ _ _ _).trans nI_0.symm), Nat.zero_add]) ⟨rfl, rfl, rfl, by rw [flI, e9], rfl⟩
    · replace s6 := s6.trans (show _ = (2 : Int32) by decide)
      refine ⟨_, 43, rfl, by decide, ?_⟩
      refine pw_aload_n dX6_fill_43 rfl ?_
      refine pw_cVv_83 (ci := 6) (y := yX6_tickets) (cc := cX6_tickets) (nL := 1) (ret := none) (rm := { frames := 1, cells := 0, slots := 0, locals := 24 }) dX6_fill_44 (r_tickets_83 _ _ (upI_s _ _ _ _)) w_X6_90 rfl (by decide) rfl ⟨by decide, by decide⟩ (by decide) (by decide) rfl (Nat.le_of_ble_eq_true rfl) (fun I44 J44 q44 => ?_)
      obtain ⟨rfl, rfl⟩ := rvv q44
      refine pw_goto (tgt := 68) dX6_fill_47 (by decide) ?_
      refine pw_loc (L' := [(0, .ref 64)]) rfl ?_
      have e9 : xsOf x = xs_tickets := by simp [xsOf, s6]
      exact l_fill_83 J _ (40 - xs_tickets.length) xs_tickets.length _ (by decide) (by rw [isL_at _ 0 _ ((upI_s _ _ _ _).trans nI_0.symm), Nat.zero_add]) ⟨rfl, rfl, rfl, by rw [flI, e9], rfl⟩
    · replace s6 := s6.trans (show _ = (3 : Int32) by decide)
      refine ⟨_, 50, rfl, by decide, ?_⟩
      refine pw_aload_n dX6_fill_50 rfl ?_
      refine pw_cVv_83 (ci := 6) (y := yX6_two) (cc := cX6_two) (nL := 1) (ret := none) (rm := { frames := 1, cells := 0, slots := 0, locals := 24 }) dX6_fill_51 (r_two_83 _ _ (upI_s _ _ _ _)) w_X6_93 rfl (by decide) rfl ⟨by decide, by decide⟩ (by decide) (by decide) rfl (Nat.le_of_ble_eq_true rfl) (fun I51 J51 q51 => ?_)
      obtain ⟨rfl, rfl⟩ := rvv q51
      refine pw_goto (tgt := 68) dX6_fill_54 (by decide) ?_
      refine pw_loc (L' := [(0, .ref 64)]) rfl ?_
      have e9 : xsOf x = xs_two := by simp [xsOf, s6]
      exact l_fill_83 J _ (40 - xs_two.length) xs_two.length _ (by decide) (by rw [isL_at _ 0 _ ((upI_s _ _ _ _).trans nI_0.symm), Nat.zero_add]) ⟨rfl, rfl, rfl, by rw [flI, e9], rfl⟩
    · replace s6 := s6.trans (show _ = (4 : Int32) by decide)
      refine ⟨_, 57, rfl, by decide, ?_⟩
      refine pw_aload_n dX6_fill_57 rfl ?_
      refine pw_cVv_83 (ci := 6) (y := yX6_bakery) (cc := cX6_bakery) (nL := 1) (ret := none) (rm := { frames := 1, cells := 0, slots := 0, locals := 24 }) dX6_fill_58 (r_bakery_83 _ _ (upI_s _ _ _ _)) w_X6_96 rfl (by decide) rfl ⟨by decide, by decide⟩ (by decide) (by decide) rfl (Nat.le_of_ble_eq_true rfl) (fun I58 J58 q58 => ?_)
      obtain ⟨rfl, rfl⟩ := rvv q58
      refine pw_goto (tgt := 68) dX6_fill_61 (by decide) ?_
      refine pw_loc (L' := [(0, .ref 64)]) rfl ?_
      have e9 : xsOf x = xs_bakery := by simp [xsOf, s6]
      exact l_fill_83 J _ (40 - xs_bakery.length) xs_bakery.length _ (by decide) (by rw [isL_at _ 0 _ ((upI_s _ _ _ _).trans nI_0.symm), Nat.zero_add]) ⟨rfl, rfl, rfl, by rw [flI, e9], rfl⟩
  · refine ⟨64, by decide, ?_⟩
    have n1 : ¬ x = 1 := fun e => by rw [e] at o6; revert o6; decide
    have n2 : ¬ x = 2 := fun e => by rw [e] at o6; revert o6; decide
    have n3 : ¬ x = 3 := fun e => by rw [e] at o6; revert o6; decide
    have n4 : ¬ x = 4 := fun e => by rw [e] at o6; revert o6; decide
    refine pw_aload_n dX6_fill_64 rfl ?_
    refine pw_cVv_83 (ci := 6) (y := yX6_levels) (cc := cX6_levels) (nL := 1) (ret := none) (rm := { frames := 1, cells := 0, slots := 0, locals := 24 }) dX6_fill_65 (r_levels_83 _ _ (upI_s _ _ _ _)) w_X6_99 rfl (by decide) rfl ⟨by decide, by decide⟩ (by decide) (by decide) rfl (Nat.le_of_ble_eq_true rfl) (fun I65 J65 q65 => ?_)
    obtain ⟨rfl, rfl⟩ := rvv q65
    refine pw_loc (L' := [(0, .ref 64)]) rfl ?_
    have e9 : xsOf x = xs_levels := by simp [xsOf, n1, n2, n3, n4]
    exact l_fill_83 J _ (40 - xs_levels.length) xs_levels.length _ (by decide) (by rw [isL_at _ 0 _ ((upI_s _ _ _ _).trans nI_0.symm), Nat.zero_add]) ⟨rfl, rfl, rfl, by rw [flI, e9], rfl⟩
