/-! THE REFERENCE: fill, mend, rest, attempt, mayBe, change, exhibit -/
def pdL : Nat → Nat → pI → pI
  | 0, _, I => I
  | m + 1, t, I => pdL m (t + 1) (isI I t (13, 0, 0, 0))
theorem isL_at : ∀ (xs : List (Int32 × Int32 × Int32 × Int32)) (t : Nat) (I : pI), I 64 23 = nI t → isL xs t I 64 23 = nI (t + xs.length) := by
  intro xs
  induction xs with
  | nil => intro t I h; exact h
  | cons x xs ih =>
    intro t I h
    rw [isL, ih (t + 1) _ isI_at, List.length_cons]
    congr 1; omega
def xsOf (x : Int32) : List (Int32 × Int32 × Int32 × Int32) := if x = 1 then xs_swaps else if x = 2 then xs_tickets else if x = 3 then xs_two else if x = 4 then xs_bakery else xs_levels
theorem xsOf_len (x : Int32) : (xsOf x).length ≤ 40 := by
  unfold xsOf; repeat' split
  all_goals decide
def flI (I : pI) (x : Int32) : pI := pdL (40 - (xsOf x).length) (xsOf x).length (isL (xsOf x) 0 (upI I 64 23 0))
abbrev m_X6_fill : pT := (yX6_fill.cls, cX6_fill, 2, none, { frames := 2, cells := 0, slots := 0, locals := 44 }, [], none)
set_option maxRecDepth 100000 in
set_option maxHeartbeats 4000000 in
theorem l_fill (J : pJ) (Q : pQ) : ∀ (m t : Nat) (I : pI), t + m = 40 → I 64 23 = nI t → Q (.inl none) 84 (pdL m t I) J pRs → PW m_X6_fill Q 68 [(0, .ref 64)] [] 84 I J pRs 0 0 := by
  intro m
  induction m with
  | zero =>
    intro t I htm hI hQ
    refine pw_aload_n dX6_fill_68 rfl ?_
    refine pw_geti dX6_fill_69 fl_X6_80 rfl rfl (by decide) (by decide) ?_
    refine pw_bipush (v := 40) dX6_fill_72 (by decide) ?_
    refine pw_icmp_ge (tgt := 89) dX6_fill_74 (by decide) (fun h74 => ?_) (fun h74 => ?_)
    · refine pw_vret dX6_fill_89 rfl (by decide) (by decide) ?_
      exact hQ
    · exact absurd (by rw [hI]; exact nI_le (a := 40) (by omega) (by omega)) h74
  | succ m ih =>
    intro t I htm hI hQ
    refine pw_aload_n dX6_fill_68 rfl ?_
    refine pw_geti dX6_fill_69 fl_X6_80 rfl rfl (by decide) (by decide) ?_
    refine pw_bipush (v := 40) dX6_fill_72 (by decide) ?_
    refine pw_icmp_ge (tgt := 89) dX6_fill_74 (by decide) (fun h74 => ?_) (fun h74 => ?_)
    · exact absurd ((nI_leI (a := 40) (b := t) (by decide) (by omega)).mp (by rw [← hI]; exact h74)) (by omega)
    · refine pw_aload_n dX6_fill_77 rfl ?_
      refine pw_bipush (v := 13) dX6_fill_78 (by decide) ?_
      refine pw_iconst (v := 0) dX6_fill_80 (by decide) ?_
      refine pw_iconst (v := 0) dX6_fill_81 (by decide) ?_
      refine pw_iconst (v := 0) dX6_fill_82 (by decide) ?_
      refine pw_cVv (ci := 6) (y := yX6_is) (cc := cX6_is) (nL := 5) (ret := none) (rm := { frames := 0, cells := 0, slots := 0, locals := 0 }) dX6_fill_83 (r_is (t := t) _ _ _ _ _ _ (by omega) hI) w_X6_83 rfl (by decide) rfl ⟨by decide, by decide⟩ (by decide) (by decide) rfl (Nat.le_of_ble_eq_true rfl) (fun I83 J83 q83 => ?_)
      obtain ⟨rfl, rfl⟩ := rvv q83
      refine pw_goto (tgt := 68) dX6_fill_86 (by decide) ?_
      exact ih (t + 1) _ (by omega) isI_at hQ
set_option maxRecDepth 100000 in
set_option maxHeartbeats 4000000 in
theorem r_fill (x : Int32) (I : pI) (J : pJ) : pMet yX6_fill (pws yX6_fill cX6_fill 2 none) { frames := 2, cells := 0, slots := 0, locals := 44 } [.ref 64, .int x] 84 I J pRs (pOv (fun I' J' => I' = flI I x ∧ J' = J)) := by
  refine pMet_of (by decide) (Nat.le_of_ble_eq_true rfl) ?_
  refine pw_aload_n dX6_fill_0 rfl ?_
  refine pw_iconst (v := 0) dX6_fill_1 (by decide) ?_
  refine pw_puti dX6_fill_2 fl_X6_80 rfl rfl rfl rfl rfl (by decide) (by decide) ?_
  refine pw_iload_n dX6_fill_5 rfl ?_
  refine pw_tsw dX6_fill_6 (fun i6 hi6 s6 => ?_) (fun o6 => ?_)
  · rcases (show i6 = 0 ∨ i6 = 1 ∨ i6 = 2 ∨ i6 = 3 by omega) with rfl | rfl | rfl | rfl
    · replace s6 := s6.trans (show _ = (1 : Int32) by decide)
      refine ⟨_, 36, rfl, by decide, ?_⟩
      refine pw_aload_n dX6_fill_36 rfl ?_
      refine pw_cVv (ci := 6) (y := yX6_swaps) (cc := cX6_swaps) (nL := 1) (ret := none) (rm := { frames := 1, cells := 0, slots := 0, locals := 24 }) dX6_fill_37 (r_swaps _ _ (upI_s _ _ _ _)) w_X6_87 rfl (by decide) rfl ⟨by decide, by decide⟩ (by decide) (by decide) rfl (Nat.le_of_ble_eq_true rfl) (fun I37 J37 q37 => ?_)
      obtain ⟨rfl, rfl⟩ := rvv q37
      refine pw_goto (tgt := 68) dX6_fill_40 (by decide) ?_
      refine pw_loc (L' := [(0, .ref 64)]) rfl ?_
      have e9 : xsOf x = xs_swaps := by simp [xsOf, s6]
      exact l_fill J _ (40 - xs_swaps.length) xs_swaps.length _ (by decide) (by rw [isL_at _ 0 _ ((upI_s _ _ _ _).trans nI_0.symm), Nat.zero_add]) ⟨rfl, rfl, rfl, by rw [flI, e9], rfl⟩
    · replace s6 := s6.trans (show _ = (2 : Int32) by decide)
      refine ⟨_, 43, rfl, by decide, ?_⟩
      refine pw_aload_n dX6_fill_43 rfl ?_
      refine pw_cVv (ci := 6) (y := yX6_tickets) (cc := cX6_tickets) (nL := 1) (ret := none) (rm := { frames := 1, cells := 0, slots := 0, locals := 24 }) dX6_fill_44 (r_tickets _ _ (upI_s _ _ _ _)) w_X6_90 rfl (by decide) rfl ⟨by decide, by decide⟩ (by decide) (by decide) rfl (Nat.le_of_ble_eq_true rfl) (fun I44 J44 q44 => ?_)
      obtain ⟨rfl, rfl⟩ := rvv q44
      refine pw_goto (tgt := 68) dX6_fill_47 (by decide) ?_
      refine pw_loc (L' := [(0, .ref 64)]) rfl ?_
      have e9 : xsOf x = xs_tickets := by simp [xsOf, s6]
      exact l_fill J _ (40 - xs_tickets.length) xs_tickets.length _ (by decide) (by rw [isL_at _ 0 _ ((upI_s _ _ _ _).trans nI_0.symm), Nat.zero_add]) ⟨rfl, rfl, rfl, by rw [flI, e9], rfl⟩
    · replace s6 := s6.trans (show _ = (3 : Int32) by decide)
      refine ⟨_, 50, rfl, by decide, ?_⟩
      refine pw_aload_n dX6_fill_50 rfl ?_
      refine pw_cVv (ci := 6) (y := yX6_two) (cc := cX6_two) (nL := 1) (ret := none) (rm := { frames := 1, cells := 0, slots := 0, locals := 24 }) dX6_fill_51 (r_two _ _ (upI_s _ _ _ _)) w_X6_93 rfl (by decide) rfl ⟨by decide, by decide⟩ (by decide) (by decide) rfl (Nat.le_of_ble_eq_true rfl) (fun I51 J51 q51 => ?_)
      obtain ⟨rfl, rfl⟩ := rvv q51
      refine pw_goto (tgt := 68) dX6_fill_54 (by decide) ?_
      refine pw_loc (L' := [(0, .ref 64)]) rfl ?_
      have e9 : xsOf x = xs_two := by simp [xsOf, s6]
      exact l_fill J _ (40 - xs_two.length) xs_two.length _ (by decide) (by rw [isL_at _ 0 _ ((upI_s _ _ _ _).trans nI_0.symm), Nat.zero_add]) ⟨rfl, rfl, rfl, by rw [flI, e9], rfl⟩
    · replace s6 := s6.trans (show _ = (4 : Int32) by decide)
      refine ⟨_, 57, rfl, by decide, ?_⟩
      refine pw_aload_n dX6_fill_57 rfl ?_
      refine pw_cVv (ci := 6) (y := yX6_bakery) (cc := cX6_bakery) (nL := 1) (ret := none) (rm := { frames := 1, cells := 0, slots := 0, locals := 24 }) dX6_fill_58 (r_bakery _ _ (upI_s _ _ _ _)) w_X6_96 rfl (by decide) rfl ⟨by decide, by decide⟩ (by decide) (by decide) rfl (Nat.le_of_ble_eq_true rfl) (fun I58 J58 q58 => ?_)
      obtain ⟨rfl, rfl⟩ := rvv q58
      refine pw_goto (tgt := 68) dX6_fill_61 (by decide) ?_
      refine pw_loc (L' := [(0, .ref 64)]) rfl ?_
      have e9 : xsOf x = xs_bakery := by simp [xsOf, s6]
      exact l_fill J _ (40 - xs_bakery.length) xs_bakery.length _ (by decide) (by rw [isL_at _ 0 _ ((upI_s _ _ _ _).trans nI_0.symm), Nat.zero_add]) ⟨rfl, rfl, rfl, by rw [flI, e9], rfl⟩
  · refine ⟨64, by decide, ?_⟩
    have n1 : ¬ x = 1 := fun e => by rw [e] at o6; revert o6; decide
    have n2 : ¬ x = 2 := fun e => by rw [e] at o6; revert o6; decide
    have n3 : ¬ x = 3 := fun e => by rw [e] at o6; revert o6; decide
    have n4 : ¬ x = 4 := fun e => by rw [e] at o6; revert o6; decide
    refine pw_aload_n dX6_fill_64 rfl ?_
    refine pw_cVv (ci := 6) (y := yX6_levels) (cc := cX6_levels) (nL := 1) (ret := none) (rm := { frames := 1, cells := 0, slots := 0, locals := 24 }) dX6_fill_65 (r_levels _ _ (upI_s _ _ _ _)) w_X6_99 rfl (by decide) rfl ⟨by decide, by decide⟩ (by decide) (by decide) rfl (Nat.le_of_ble_eq_true rfl) (fun I65 J65 q65 => ?_)
    obtain ⟨rfl, rfl⟩ := rvv q65
    refine pw_loc (L' := [(0, .ref 64)]) rfl ?_
    have e9 : xsOf x = xs_levels := by simp [xsOf, n1, n2, n3, n4]
    exact l_fill J _ (40 - xs_levels.length) xs_levels.length _ (by decide) (by rw [isL_at _ 0 _ ((upI_s _ _ _ _).trans nI_0.symm), Nat.zero_add]) ⟨rfl, rfl, rfl, by rw [flI, e9], rfl⟩
def cpL : Nat → Nat → pI → pI
  | 0, _, I => I
  | m + 1, k, I => cpL m (k + 1) (upI I 65 k (I 66 k))
def mdI (I : pI) : pI := cpL 160 0 (flI (upI I 64 0 0) (I 64 1))
abbrev m_X6_mend : pT := (yX6_mend.cls, cX6_mend, 2, none, { frames := 3, cells := 0, slots := 0, locals := 65 }, [], none)
set_option maxRecDepth 100000 in
set_option maxHeartbeats 4000000 in
theorem l_mend (J : pJ) (Q : pQ) : ∀ (m k : Nat) (I : pI), k + m = 160 → Q (.inl none) 84 (cpL m k I) J pRs → PW m_X6_mend Q 15 [(0, .ref 64), (1, .int (nI k))] [] 84 I J pRs 0 0 := by
  intro m
  induction m with
  | zero =>
    intro k I hkm hQ
    refine pw_iload_n dX6_mend_15 rfl ?_
    refine pw_sipush (v := 160) dX6_mend_16 (by decide) ?_
    refine pw_icmp_ge (tgt := 40) dX6_mend_19 (by decide) (fun h19 => ?_) (fun h19 => ?_)
    · refine pw_vret dX6_mend_40 rfl (by decide) (by decide) ?_
      exact hQ
    · exact absurd (nI_le (a := 160) (by omega) (by omega)) h19
  | succ m ih =>
    intro k I hkm hQ
    refine pw_iload_n dX6_mend_15 rfl ?_
    refine pw_sipush (v := 160) dX6_mend_16 (by decide) ?_
    refine pw_icmp_ge (tgt := 40) dX6_mend_19 (by decide) (fun h19 => ?_) (fun h19 => ?_)
    · exact absurd ((nI_leI (a := 160) (b := k) (by decide) (by omega)).mp h19) (by omega)
    · refine pw_aload_n dX6_mend_22 rfl ?_
      refine pw_getr dX6_mend_23 fl_X6_16 rfl rfl (by decide) (by decide) rfl ?_
      refine pw_iload_n dX6_mend_26 rfl ?_
      refine pw_aload_n dX6_mend_27 rfl ?_
      refine pw_getr dX6_mend_28 fl_X6_20 rfl rfl (by decide) (by decide) rfl ?_
      refine pw_iload_n dX6_mend_31 rfl ?_
      refine pw_iald dX6_mend_32 rfl (by decide) (by decide) (vp_in_nI (by omega) (by decide)) ?_
      rw [nI_clamp (show k < 2 ^ 31 by omega)]
      refine pw_iast dX6_mend_33 rfl (by decide) (by decide) (vp_in_nI (by omega) (by decide)) ?_
      rw [nI_clamp (show k < 2 ^ 31 by omega)]
      refine pw_iinc (v := nI (k + 1)) dX6_mend_34 rfl (by rw [nI_succ]; rfl) (by decide) ?_
      refine pw_goto (tgt := 15) dX6_mend_37 (by decide) ?_
      refine pw_loc (L' := [(0, .ref 64), (1, .int (nI (k + 1)))]) rfl ?_
      exact ih (k + 1) _ (by omega) hQ
set_option maxRecDepth 100000 in
set_option maxHeartbeats 4000000 in
theorem r_mend (I : pI) (J : pJ) : pMet yX6_mend (pws yX6_mend cX6_mend 2 none) { frames := 3, cells := 0, slots := 0, locals := 65 } [.ref 64] 84 I J pRs (pOv (fun I' J' => I' = mdI I ∧ J' = J)) := by
  refine pMet_of (by decide) (Nat.le_of_ble_eq_true rfl) ?_
  refine pw_aload_n dX6_mend_0 rfl ?_
  refine pw_iconst (v := 0) dX6_mend_1 (by decide) ?_
  refine pw_puti dX6_mend_2 fl_X6_77 rfl rfl rfl rfl rfl (by decide) (by decide) ?_
  refine pw_aload_n dX6_mend_5 rfl ?_
  refine pw_aload_n dX6_mend_6 rfl ?_
  refine pw_geti dX6_mend_7 fl_X6_7 rfl rfl (by decide) (by decide) ?_
  rw [upI_k (by decide)]
  refine pw_cVv (ci := 6) (y := yX6_fill) (cc := cX6_fill) (nL := 2) (ret := none) (rm := { frames := 2, cells := 0, slots := 0, locals := 44 }) dX6_mend_10 (r_fill _ _ _) w_X6_73 rfl (by decide) rfl ⟨by decide, by decide⟩ (by decide) (by decide) rfl (Nat.le_of_ble_eq_true rfl) (fun I10 J10 q10 => ?_)
  obtain ⟨rfl, rfl⟩ := rvv q10
  refine pw_iconst (v := 0) dX6_mend_13 (by decide) ?_
  refine pw_istore_n dX6_mend_14 (by decide) ?_
  refine pw_loc (L' := [(0, .ref 64), (1, .int (nI 0))]) rfl ?_
  exact l_mend J _ 160 0 _ (by decide) ⟨rfl, rfl, rfl, rfl, rfl⟩
def rgZ (p : Nat) : Nat → Nat → pI → pI
  | 0, _, I => I
  | m + 1, r, I => rgZ p m (r + 1) (upI I 70 (6 * p + r) 0)
def reI (I : pI) (p : Nat) : pI := rgZ p 6 0 (upI (upI I 68 p 0) 69 p 0)
theorem rgZ_o {p a k : Nat} (h : a ≠ 70) : ∀ (m r : Nat) (I : pI), rgZ p m r I a k = I a k := by
  intro m
  induction m with
  | zero => intro r I; rfl
  | succ m ih => intro r I; rw [rgZ, ih, upI_a h]
theorem reI_o {I : pI} {p a k : Nat} (h : a ≠ 70) (h1 : a ≠ 68) (h2 : a ≠ 69) : reI I p a k = I a k := by rw [reI, rgZ_o h, upI_a h2, upI_a h1]
abbrev m_X6_rest : pT := (yX6_rest.cls, cX6_rest, 3, none, { frames := 0, cells := 0, slots := 0, locals := 0 }, [], none)
set_option maxRecDepth 100000 in
set_option maxHeartbeats 4000000 in
theorem l_rest {p : Nat} (hp : p < 6) (J : pJ) (Q : pQ) : ∀ (m r : Nat) (I : pI), r + m = 6 → Q (.inl none) 84 (rgZ p m r I) J pRs → PW m_X6_rest Q 16 [(0, .ref 64), (1, .int (nI p)), (2, .int (nI r))] [] 84 I J pRs 0 0 := by
  intro m
  induction m with
  | zero =>
    intro r I hrm hQ
    refine pw_iload_n dX6_rest_16 rfl ?_
    refine pw_bipush (v := 6) dX6_rest_17 (by decide) ?_
    refine pw_icmp_ge (tgt := 40) dX6_rest_19 (by decide) (fun h19 => ?_) (fun h19 => ?_)
    · refine pw_vret dX6_rest_40 rfl (by decide) (by decide) ?_
      exact hQ
    · exact absurd (nI_le (a := 6) (by omega) (by omega)) h19
  | succ m ih =>
    intro r I hrm hQ
    refine pw_iload_n dX6_rest_16 rfl ?_
    refine pw_bipush (v := 6) dX6_rest_17 (by decide) ?_
    refine pw_icmp_ge (tgt := 40) dX6_rest_19 (by decide) (fun h19 => ?_) (fun h19 => ?_)
    · exact absurd ((nI_leI (a := 6) (b := r) (by decide) (by omega)).mp h19) (by omega)
    · refine pw_aload_n dX6_rest_22 rfl ?_
      refine pw_getr dX6_rest_23 fl_X6_32 rfl rfl (by decide) (by decide) rfl ?_
      refine pw_bipush (v := 6) dX6_rest_26 (by decide) ?_
      refine pw_iload_n dX6_rest_28 rfl ?_
      refine pw_imul dX6_rest_29 ?_
      refine pw_iload_n dX6_rest_30 rfl ?_
      refine pw_iadd dX6_rest_31 ?_
      have e60 : (6 : Int32) * nI p + nI r = nI (6 * p + r) := by rw [show (6 : Int32) = nI 6 by decide, pk_mul, nI_add]
      rw [e60]
      refine pw_iconst (v := 0) dX6_rest_32 (by decide) ?_
      refine pw_iast dX6_rest_33 rfl (by decide) (by decide) (vp_in_nI (by omega) (by decide)) ?_
      rw [nI_clamp (show 6 * p + r < 2 ^ 31 by omega)]
      refine pw_iinc (v := nI (r + 1)) dX6_rest_34 rfl (by rw [nI_succ]; rfl) (by decide) ?_
      refine pw_goto (tgt := 16) dX6_rest_37 (by decide) ?_
      refine pw_loc (L' := [(0, .ref 64), (1, .int (nI p)), (2, .int (nI (r + 1)))]) rfl ?_
      exact ih (r + 1) _ (by omega) hQ
set_option maxRecDepth 100000 in
set_option maxHeartbeats 4000000 in
theorem r_rest {p : Nat} (I : pI) (J : pJ) (hp : p < 6) : pMet yX6_rest (pws yX6_rest cX6_rest 3 none) { frames := 0, cells := 0, slots := 0, locals := 0 } [.ref 64, .int (nI p)] 84 I J pRs (pOv (fun I' J' => I' = reI I p ∧ J' = J)) := by
  refine pMet_of (by decide) (Nat.le_of_ble_eq_true rfl) ?_
  refine pw_aload_n dX6_rest_0 rfl ?_
  refine pw_getr dX6_rest_1 fl_X6_26 rfl rfl (by decide) (by decide) rfl ?_
  refine pw_iload_n dX6_rest_4 rfl ?_
  refine pw_iconst (v := 0) dX6_rest_5 (by decide) ?_
  refine pw_iast dX6_rest_6 rfl (by decide) (by decide) (vp_in_nI (by omega) (by decide)) ?_
  rw [nI_clamp (show p < 2 ^ 31 by omega)]
  refine pw_aload_n dX6_rest_7 rfl ?_
  refine pw_getr dX6_rest_8 fl_X6_29 rfl rfl (by decide) (by decide) rfl ?_
  refine pw_iload_n dX6_rest_11 rfl ?_
  refine pw_iconst (v := 0) dX6_rest_12 (by decide) ?_
  refine pw_iast dX6_rest_13 rfl (by decide) (by decide) (vp_in_nI (by omega) (by decide)) ?_
  rw [nI_clamp (show p < 2 ^ 31 by omega)]
  refine pw_iconst (v := 0) dX6_rest_14 (by decide) ?_
  refine pw_istore_n dX6_rest_15 (by decide) ?_
  refine pw_loc (L' := [(0, .ref 64), (1, .int (nI p)), (2, .int (nI 0))]) rfl ?_
  exact l_rest hp J _ 6 0 _ (by decide) ⟨rfl, rfl, rfl, rfl, rfl⟩
def atI (I : pI) (p : Nat) (x : Int32) : pI := upI (upI (upI (upI (upI (upI (reI I p) 68 p 1) 70 (6 * p) x) 70 (6 * p + 1) (I 64 2)) 71 p 0) 72 p 0) 73 p 0
set_option maxRecDepth 100000 in
set_option maxHeartbeats 4000000 in
theorem r_attempt {p : Nat} (x : Int32) (I : pI) (J : pJ) (hp : p < 6) : pMet yX6_attempt (pws yX6_attempt cX6_attempt 3 none) { frames := 1, cells := 0, slots := 0, locals := 22 } [.ref 64, .int (nI p), .int x] 84 I J pRs (pOv (fun I' J' => I' = atI I p x ∧ J' = J)) := by
  refine pMet_of (by decide) (Nat.le_of_ble_eq_true rfl) ?_
  refine pw_aload_n dX6_attempt_0 rfl ?_
  refine pw_iload_n dX6_attempt_1 rfl ?_
  refine pw_cVv (ci := 6) (y := yX6_rest) (cc := cX6_rest) (nL := 3) (ret := none) (rm := { frames := 0, cells := 0, slots := 0, locals := 0 }) dX6_attempt_2 (r_rest _ _ hp) w_X6_113 rfl (by decide) rfl ⟨by decide, by decide⟩ (by decide) (by decide) rfl (Nat.le_of_ble_eq_true rfl) (fun I2 J2 q2 => ?_)
  obtain ⟨rfl, rfl⟩ := rvv q2
  refine pw_aload_n dX6_attempt_5 rfl ?_
  refine pw_getr dX6_attempt_6 fl_X6_26 rfl rfl (by decide) (by decide) rfl ?_
  refine pw_iload_n dX6_attempt_9 rfl ?_
  refine pw_iconst (v := 1) dX6_attempt_10 (by decide) ?_
  refine pw_iast dX6_attempt_11 rfl (by decide) (by decide) (vp_in_nI (by omega) (by decide)) ?_
  rw [nI_clamp (show p < 2 ^ 31 by omega)]
  refine pw_aload_n dX6_attempt_12 rfl ?_
  refine pw_getr dX6_attempt_13 fl_X6_32 rfl rfl (by decide) (by decide) rfl ?_
  refine pw_bipush (v := 6) dX6_attempt_16 (by decide) ?_
  refine pw_iload_n dX6_attempt_18 rfl ?_
  refine pw_imul dX6_attempt_19 ?_
  have e60 : (6 : Int32) * nI p = nI (6 * p) := by rw [show (6 : Int32) = nI 6 by decide, pk_mul]
  rw [e60]
  refine pw_iload_n dX6_attempt_20 rfl ?_
  refine pw_iast dX6_attempt_21 rfl (by decide) (by decide) (vp_in_nI (by omega) (by decide)) ?_
  rw [nI_clamp (show 6 * p < 2 ^ 31 by omega)]
  refine pw_aload_n dX6_attempt_22 rfl ?_
  refine pw_getr dX6_attempt_23 fl_X6_32 rfl rfl (by decide) (by decide) rfl ?_
  refine pw_bipush (v := 6) dX6_attempt_26 (by decide) ?_
  refine pw_iload_n dX6_attempt_28 rfl ?_
  refine pw_imul dX6_attempt_29 ?_
  rw [e60]
  refine pw_iconst (v := 1) dX6_attempt_30 (by decide) ?_
  refine pw_iadd dX6_attempt_31 ?_
  have e61 : nI (6 * p) + (1 : Int32) = nI (6 * p + 1) := nI_1 _
  rw [e61]
  refine pw_aload_n dX6_attempt_32 rfl ?_
  refine pw_geti dX6_attempt_33 fl_X6_13 rfl rfl (by decide) (by decide) ?_
  simp only [upI_a (show (64 : Nat) ≠ 68 by decide), upI_a (show (64 : Nat) ≠ 70 by decide), reI_o (show (64 : Nat) ≠ 70 by decide) (show (64 : Nat) ≠ 68 by decide) (show (64 : Nat) ≠ 69 by decide)]
  refine pw_iast dX6_attempt_36 rfl (by decide) (by decide) (vp_in_nI (by omega) (by decide)) ?_
  rw [nI_clamp (show 6 * p + 1 < 2 ^ 31 by omega)]
  refine pw_aload_n dX6_attempt_37 rfl ?_
  refine pw_getr dX6_attempt_38 fl_X6_35 rfl rfl (by decide) (by decide) rfl ?_
  refine pw_iload_n dX6_attempt_41 rfl ?_
  refine pw_iconst (v := 0) dX6_attempt_42 (by decide) ?_
  refine pw_zast dX6_attempt_43 rfl (by decide) (by decide) (vp_in_nI (by omega) (by decide)) rfl ?_
  rw [nI_clamp (show p < 2 ^ 31 by omega)]
  refine pw_aload_n dX6_attempt_44 rfl ?_
  refine pw_getr dX6_attempt_45 fl_X6_39 rfl rfl (by decide) (by decide) rfl ?_
  refine pw_iload_n dX6_attempt_48 rfl ?_
  refine pw_iconst (v := 0) dX6_attempt_49 (by decide) ?_
  refine pw_iast dX6_attempt_50 rfl (by decide) (by decide) (vp_in_nI (by omega) (by decide)) ?_
  rw [nI_clamp (show p < 2 ^ 31 by omega)]
  refine pw_aload_n dX6_attempt_51 rfl ?_
  refine pw_getr dX6_attempt_52 fl_X6_42 rfl rfl (by decide) (by decide) rfl ?_
  refine pw_iload_n dX6_attempt_55 rfl ?_
  refine pw_iconst (v := 0) dX6_attempt_56 (by decide) ?_
  refine pw_iast dX6_attempt_57 rfl (by decide) (by decide) (vp_in_nI (by omega) (by decide)) ?_
  rw [nI_clamp (show p < 2 ^ 31 by omega)]
  refine pw_vret dX6_attempt_58 rfl (by decide) (by decide) ?_
  exact ⟨rfl, rfl, rfl, rfl, rfl⟩
abbrev isR (v : Int32) : Prop := 0 ≤ v ∧ v ≤ 5
abbrev isPl (v : Int32) : Prop := 0 ≤ v ∧ v ≤ 39
def mbP (k a b d : Int32) : Prop :=
  if k = 0 ∨ k = 1 then isR a ∧ (0 ≤ b ∧ b ≤ 15)
  else if k = 2 then isR a ∧ isR b
  else if k = 3 ∨ k = 4 then isR a ∧ isR b ∧ isPl d
  else if k = 5 then isPl d
  else if k = 7 ∨ k = 8 ∨ k = 9 then isR a ∧ (0 ≤ b ∧ b ≤ 7) ∧ (0 ≤ d ∧ d ≤ 6)
  else if k = 10 then isR a ∧ (0 ≤ b ∧ b ≤ 7) ∧ (0 ≤ d ∧ d ≤ 15)
  else if k = 11 then isR a ∧ (0 ≤ b ∧ b ≤ 7) ∧ isR d
  else k = 6 ∨ k = 12 ∨ k = 13
theorem mb_one {p : Prop} (h : p) : ((1 : Int32) = 1 ∧ p) ∨ ((1 : Int32) = 0 ∧ ¬ p) := Or.inl ⟨rfl, h⟩
theorem mb_zero {p : Prop} (h : ¬ p) : ((0 : Int32) = 1 ∧ p) ∨ ((0 : Int32) = 0 ∧ ¬ p) := Or.inr ⟨rfl, h⟩
theorem mb_if {p q : Prop} [Decidable q] (h : p ↔ q) : ((if q then (1 : Int32) else 0) = 1 ∧ p) ∨ ((if q then (1 : Int32) else 0) = 0 ∧ ¬ p) := by
  by_cases hq : q
  · exact Or.inl ⟨if_pos hq, h.mpr hq⟩
  · exact Or.inr ⟨if_neg hq, fun z => hq (h.mp z)⟩
set_option maxRecDepth 100000 in
set_option maxHeartbeats 4000000 in
theorem r_mayBe (k a b d : Int32) (I : pI) (J : pJ) : pMet yX6_mayBe (pws yX6_mayBe cX6_mayBe 4 (some .boolean)) { frames := 2, cells := 0, slots := 0, locals := 42 } [.int k, .int a, .int b, .int d] 84 I J pRs (pOi (fun r I' J' => ((r = 1 ∧ mbP k a b d) ∨ (r = 0 ∧ ¬ mbP k a b d)) ∧ I' = I ∧ J' = J)) := by
  refine pMet_of (by decide) (Nat.le_of_ble_eq_true rfl) ?_
  refine pw_iload_n dX6_mayBe_0 rfl ?_
  refine pw_tsw dX6_mayBe_1 (fun i1 hi1 s1 => ?_) (fun o1 => ?_)
  · rcases (show i1 = 0 ∨ i1 = 1 ∨ i1 = 2 ∨ i1 = 3 ∨ i1 = 4 ∨ i1 = 5 ∨ i1 = 6 ∨ i1 = 7 ∨ i1 = 8 ∨ i1 = 9 ∨ i1 = 10 ∨ i1 = 11 by omega) with rfl | rfl | rfl | rfl | rfl | rfl | rfl | rfl | rfl | rfl | rfl | rfl
    · replace s1 := s1.trans (show _ = (0 : Int32) by decide)
      refine ⟨_, 64, rfl, by decide, ?_⟩
      refine pw_iload_n dX6_mayBe_64 rfl ?_
      refine pw_cSi (y := yX6_isRegister) (cc := cX6_isRegister) (nL := 1) (ret := (some .boolean)) (rm := { frames := 1, cells := 0, slots := 0, locals := 22 }) dX6_mayBe_65 (r_isRegister _ _ _) w_X6_116 rfl ⟨by decide, by decide⟩ (by decide) (by decide) rfl (Nat.le_of_ble_eq_true rfl) (fun x65 I65 J65 q65 => ?_)
      obtain ⟨rfl, rfl, rfl⟩ := rvq q65
      refine pw_if_eq (tgt := 85) dX6_mayBe_68 (by decide) (fun h68 => ?_) (fun h68 => ?_)
      · refine pw_iconst (v := 0) dX6_mayBe_85 (by decide) ?_
        refine pw_iret dX6_mayBe_86 rfl (by first | rfl | exact nb_if) (by decide) (by decide) ?_
        refine ⟨_, rfl, rfl, rfl, ?_, rfl, rfl⟩
        first
          | (subst s1; exact mb_one (by simp (decide := true) only [mbP]; simp only [isIn, if1_eq] at *; grind))
          | (subst s1; exact mb_zero (by simp (decide := true) only [mbP]; simp only [isIn, if1_eq] at *; grind))
          | (subst s1; exact mb_if (by simp (decide := true) only [mbP, if_true, if_false]))
          | exact mb_one (by simp only [mbP, n0, n1, n2, n3, n4, n5, n7, n8, n9, n10, n11, or_self, or_false, false_or, if_false, ite_false, reduceIte]; grind)
          | exact mb_zero (by simp only [mbP, n0, n1, n2, n3, n4, n5, n7, n8, n9, n10, n11, or_self, or_false, false_or, if_false, ite_false, reduceIte]; grind)
      · refine pw_iload_n dX6_mayBe_71 rfl ?_
        refine pw_iconst (v := 0) dX6_mayBe_72 (by decide) ?_
        refine pw_bipush (v := 15) dX6_mayBe_73 (by decide) ?_
        refine pw_cSi (y := yX6_in) (cc := cX6_in) (nL := 3) (ret := (some .boolean)) (rm := { frames := 0, cells := 0, slots := 0, locals := 0 }) dX6_mayBe_75 (r_in _ _ _ _ _) w_X6_102 rfl ⟨by decide, by decide⟩ (by decide) (by decide) rfl (Nat.le_of_ble_eq_true rfl) (fun x75 I75 J75 q75 => ?_)
        obtain ⟨rfl, rfl, rfl⟩ := rvq q75
        refine pw_if_eq (tgt := 85) dX6_mayBe_78 (by decide) (fun h78 => ?_) (fun h78 => ?_)
        · refine pw_iconst (v := 0) dX6_mayBe_85 (by decide) ?_
          refine pw_iret dX6_mayBe_86 rfl (by first | rfl | exact nb_if) (by decide) (by decide) ?_
          refine ⟨_, rfl, rfl, rfl, ?_, rfl, rfl⟩
          first
            | (subst s1; exact mb_one (by simp (decide := true) only [mbP]; simp only [isIn, if1_eq] at *; grind))
            | (subst s1; exact mb_zero (by simp (decide := true) only [mbP]; simp only [isIn, if1_eq] at *; grind))
            | (subst s1; exact mb_if (by simp (decide := true) only [mbP, if_true, if_false]))
            | exact mb_one (by simp only [mbP, n0, n1, n2, n3, n4, n5, n7, n8, n9, n10, n11, or_self, or_false, false_or, if_false, ite_false, reduceIte]; grind)
            | exact mb_zero (by simp only [mbP, n0, n1, n2, n3, n4, n5, n7, n8, n9, n10, n11, or_self, or_false, false_or, if_false, ite_false, reduceIte]; grind)
        · refine pw_iconst (v := 1) dX6_mayBe_81 (by decide) ?_
          refine pw_goto (tgt := 86) dX6_mayBe_82 (by decide) ?_
          refine pw_iret dX6_mayBe_86 rfl (by first | rfl | exact nb_if) (by decide) (by decide) ?_
          refine ⟨_, rfl, rfl, rfl, ?_, rfl, rfl⟩
          first
            | (subst s1; exact mb_one (by simp (decide := true) only [mbP]; simp only [isIn, if1_eq] at *; grind))
            | (subst s1; exact mb_zero (by simp (decide := true) only [mbP]; simp only [isIn, if1_eq] at *; grind))
            | (subst s1; exact mb_if (by simp (decide := true) only [mbP, if_true, if_false]))
            | exact mb_one (by simp only [mbP, n0, n1, n2, n3, n4, n5, n7, n8, n9, n10, n11, or_self, or_false, false_or, if_false, ite_false, reduceIte]; grind)
            | exact mb_zero (by simp only [mbP, n0, n1, n2, n3, n4, n5, n7, n8, n9, n10, n11, or_self, or_false, false_or, if_false, ite_false, reduceIte]; grind)
    · replace s1 := s1.trans (show _ = (1 : Int32) by decide)
      refine ⟨_, 64, rfl, by decide, ?_⟩
      refine pw_iload_n dX6_mayBe_64 rfl ?_
      refine pw_cSi (y := yX6_isRegister) (cc := cX6_isRegister) (nL := 1) (ret := (some .boolean)) (rm := { frames := 1, cells := 0, slots := 0, locals := 22 }) dX6_mayBe_65 (r_isRegister _ _ _) w_X6_116 rfl ⟨by decide, by decide⟩ (by decide) (by decide) rfl (Nat.le_of_ble_eq_true rfl) (fun x65_1 I65_1 J65_1 q65_1 => ?_)
      obtain ⟨rfl, rfl, rfl⟩ := rvq q65_1
      refine pw_if_eq (tgt := 85) dX6_mayBe_68 (by decide) (fun h68_1 => ?_) (fun h68_1 => ?_)
      · refine pw_iconst (v := 0) dX6_mayBe_85 (by decide) ?_
        refine pw_iret dX6_mayBe_86 rfl (by first | rfl | exact nb_if) (by decide) (by decide) ?_
        refine ⟨_, rfl, rfl, rfl, ?_, rfl, rfl⟩
        first
          | (subst s1; exact mb_one (by simp (decide := true) only [mbP]; simp only [isIn, if1_eq] at *; grind))
          | (subst s1; exact mb_zero (by simp (decide := true) only [mbP]; simp only [isIn, if1_eq] at *; grind))
          | (subst s1; exact mb_if (by simp (decide := true) only [mbP, if_true, if_false]))
          | exact mb_one (by simp only [mbP, n0, n1, n2, n3, n4, n5, n7, n8, n9, n10, n11, or_self, or_false, false_or, if_false, ite_false, reduceIte]; grind)
          | exact mb_zero (by simp only [mbP, n0, n1, n2, n3, n4, n5, n7, n8, n9, n10, n11, or_self, or_false, false_or, if_false, ite_false, reduceIte]; grind)
      · refine pw_iload_n dX6_mayBe_71 rfl ?_
        refine pw_iconst (v := 0) dX6_mayBe_72 (by decide) ?_
        refine pw_bipush (v := 15) dX6_mayBe_73 (by decide) ?_
        refine pw_cSi (y := yX6_in) (cc := cX6_in) (nL := 3) (ret := (some .boolean)) (rm := { frames := 0, cells := 0, slots := 0, locals := 0 }) dX6_mayBe_75 (r_in _ _ _ _ _) w_X6_102 rfl ⟨by decide, by decide⟩ (by decide) (by decide) rfl (Nat.le_of_ble_eq_true rfl) (fun x75_1 I75_1 J75_1 q75_1 => ?_)
        obtain ⟨rfl, rfl, rfl⟩ := rvq q75_1
        refine pw_if_eq (tgt := 85) dX6_mayBe_78 (by decide) (fun h78_1 => ?_) (fun h78_1 => ?_)
        · refine pw_iconst (v := 0) dX6_mayBe_85 (by decide) ?_
          refine pw_iret dX6_mayBe_86 rfl (by first | rfl | exact nb_if) (by decide) (by decide) ?_
          refine ⟨_, rfl, rfl, rfl, ?_, rfl, rfl⟩
          first
            | (subst s1; exact mb_one (by simp (decide := true) only [mbP]; simp only [isIn, if1_eq] at *; grind))
            | (subst s1; exact mb_zero (by simp (decide := true) only [mbP]; simp only [isIn, if1_eq] at *; grind))
            | (subst s1; exact mb_if (by simp (decide := true) only [mbP, if_true, if_false]))
            | exact mb_one (by simp only [mbP, n0, n1, n2, n3, n4, n5, n7, n8, n9, n10, n11, or_self, or_false, false_or, if_false, ite_false, reduceIte]; grind)
            | exact mb_zero (by simp only [mbP, n0, n1, n2, n3, n4, n5, n7, n8, n9, n10, n11, or_self, or_false, false_or, if_false, ite_false, reduceIte]; grind)
        · refine pw_iconst (v := 1) dX6_mayBe_81 (by decide) ?_
          refine pw_goto (tgt := 86) dX6_mayBe_82 (by decide) ?_
          refine pw_iret dX6_mayBe_86 rfl (by first | rfl | exact nb_if) (by decide) (by decide) ?_
          refine ⟨_, rfl, rfl, rfl, ?_, rfl, rfl⟩
          first
            | (subst s1; exact mb_one (by simp (decide := true) only [mbP]; simp only [isIn, if1_eq] at *; grind))
            | (subst s1; exact mb_zero (by simp (decide := true) only [mbP]; simp only [isIn, if1_eq] at *; grind))
            | (subst s1; exact mb_if (by simp (decide := true) only [mbP, if_true, if_false]))
            | exact mb_one (by simp only [mbP, n0, n1, n2, n3, n4, n5, n7, n8, n9, n10, n11, or_self, or_false, false_or, if_false, ite_false, reduceIte]; grind)
            | exact mb_zero (by simp only [mbP, n0, n1, n2, n3, n4, n5, n7, n8, n9, n10, n11, or_self, or_false, false_or, if_false, ite_false, reduceIte]; grind)
    · replace s1 := s1.trans (show _ = (2 : Int32) by decide)
      refine ⟨_, 87, rfl, by decide, ?_⟩
      refine pw_iload_n dX6_mayBe_87 rfl ?_
      refine pw_cSi (y := yX6_isRegister) (cc := cX6_isRegister) (nL := 1) (ret := (some .boolean)) (rm := { frames := 1, cells := 0, slots := 0, locals := 22 }) dX6_mayBe_88 (r_isRegister _ _ _) w_X6_116 rfl ⟨by decide, by decide⟩ (by decide) (by decide) rfl (Nat.le_of_ble_eq_true rfl) (fun x88 I88 J88 q88 => ?_)
      obtain ⟨rfl, rfl, rfl⟩ := rvq q88
      refine pw_if_eq (tgt := 105) dX6_mayBe_91 (by decide) (fun h91 => ?_) (fun h91 => ?_)
      · refine pw_iconst (v := 0) dX6_mayBe_105 (by decide) ?_
        refine pw_iret dX6_mayBe_106 rfl (by first | rfl | exact nb_if) (by decide) (by decide) ?_
        refine ⟨_, rfl, rfl, rfl, ?_, rfl, rfl⟩
        first
          | (subst s1; exact mb_one (by simp (decide := true) only [mbP]; simp only [isIn, if1_eq] at *; grind))
          | (subst s1; exact mb_zero (by simp (decide := true) only [mbP]; simp only [isIn, if1_eq] at *; grind))
          | (subst s1; exact mb_if (by simp (decide := true) only [mbP, if_true, if_false]))
          | exact mb_one (by simp only [mbP, n0, n1, n2, n3, n4, n5, n7, n8, n9, n10, n11, or_self, or_false, false_or, if_false, ite_false, reduceIte]; grind)
          | exact mb_zero (by simp only [mbP, n0, n1, n2, n3, n4, n5, n7, n8, n9, n10, n11, or_self, or_false, false_or, if_false, ite_false, reduceIte]; grind)
      · refine pw_iload_n dX6_mayBe_94 rfl ?_
        refine pw_cSi (y := yX6_isRegister) (cc := cX6_isRegister) (nL := 1) (ret := (some .boolean)) (rm := { frames := 1, cells := 0, slots := 0, locals := 22 }) dX6_mayBe_95 (r_isRegister _ _ _) w_X6_116 rfl ⟨by decide, by decide⟩ (by decide) (by decide) rfl (Nat.le_of_ble_eq_true rfl) (fun x95 I95 J95 q95 => ?_)
        obtain ⟨rfl, rfl, rfl⟩ := rvq q95
        refine pw_if_eq (tgt := 105) dX6_mayBe_98 (by decide) (fun h98 => ?_) (fun h98 => ?_)
        · refine pw_iconst (v := 0) dX6_mayBe_105 (by decide) ?_
          refine pw_iret dX6_mayBe_106 rfl (by first | rfl | exact nb_if) (by decide) (by decide) ?_
          refine ⟨_, rfl, rfl, rfl, ?_, rfl, rfl⟩
          first
            | (subst s1; exact mb_one (by simp (decide := true) only [mbP]; simp only [isIn, if1_eq] at *; grind))
            | (subst s1; exact mb_zero (by simp (decide := true) only [mbP]; simp only [isIn, if1_eq] at *; grind))
            | (subst s1; exact mb_if (by simp (decide := true) only [mbP, if_true, if_false]))
            | exact mb_one (by simp only [mbP, n0, n1, n2, n3, n4, n5, n7, n8, n9, n10, n11, or_self, or_false, false_or, if_false, ite_false, reduceIte]; grind)
            | exact mb_zero (by simp only [mbP, n0, n1, n2, n3, n4, n5, n7, n8, n9, n10, n11, or_self, or_false, false_or, if_false, ite_false, reduceIte]; grind)
        · refine pw_iconst (v := 1) dX6_mayBe_101 (by decide) ?_
          refine pw_goto (tgt := 106) dX6_mayBe_102 (by decide) ?_
          refine pw_iret dX6_mayBe_106 rfl (by first | rfl | exact nb_if) (by decide) (by decide) ?_
          refine ⟨_, rfl, rfl, rfl, ?_, rfl, rfl⟩
          first
            | (subst s1; exact mb_one (by simp (decide := true) only [mbP]; simp only [isIn, if1_eq] at *; grind))
            | (subst s1; exact mb_zero (by simp (decide := true) only [mbP]; simp only [isIn, if1_eq] at *; grind))
            | (subst s1; exact mb_if (by simp (decide := true) only [mbP, if_true, if_false]))
            | exact mb_one (by simp only [mbP, n0, n1, n2, n3, n4, n5, n7, n8, n9, n10, n11, or_self, or_false, false_or, if_false, ite_false, reduceIte]; grind)
            | exact mb_zero (by simp only [mbP, n0, n1, n2, n3, n4, n5, n7, n8, n9, n10, n11, or_self, or_false, false_or, if_false, ite_false, reduceIte]; grind)
    · replace s1 := s1.trans (show _ = (3 : Int32) by decide)
      refine ⟨_, 107, rfl, by decide, ?_⟩
      refine pw_iload_n dX6_mayBe_107 rfl ?_
      refine pw_cSi (y := yX6_isRegister) (cc := cX6_isRegister) (nL := 1) (ret := (some .boolean)) (rm := { frames := 1, cells := 0, slots := 0, locals := 22 }) dX6_mayBe_108 (r_isRegister _ _ _) w_X6_116 rfl ⟨by decide, by decide⟩ (by decide) (by decide) rfl (Nat.le_of_ble_eq_true rfl) (fun x108 I108 J108 q108 => ?_)
      obtain ⟨rfl, rfl, rfl⟩ := rvq q108
      refine pw_if_eq (tgt := 132) dX6_mayBe_111 (by decide) (fun h111 => ?_) (fun h111 => ?_)
      · refine pw_iconst (v := 0) dX6_mayBe_132 (by decide) ?_
        refine pw_iret dX6_mayBe_133 rfl (by first | rfl | exact nb_if) (by decide) (by decide) ?_
        refine ⟨_, rfl, rfl, rfl, ?_, rfl, rfl⟩
        first
          | (subst s1; exact mb_one (by simp (decide := true) only [mbP]; simp only [isIn, if1_eq] at *; grind))
          | (subst s1; exact mb_zero (by simp (decide := true) only [mbP]; simp only [isIn, if1_eq] at *; grind))
          | (subst s1; exact mb_if (by simp (decide := true) only [mbP, if_true, if_false]))
          | exact mb_one (by simp only [mbP, n0, n1, n2, n3, n4, n5, n7, n8, n9, n10, n11, or_self, or_false, false_or, if_false, ite_false, reduceIte]; grind)
          | exact mb_zero (by simp only [mbP, n0, n1, n2, n3, n4, n5, n7, n8, n9, n10, n11, or_self, or_false, false_or, if_false, ite_false, reduceIte]; grind)
      · refine pw_iload_n dX6_mayBe_114 rfl ?_
        refine pw_cSi (y := yX6_isRegister) (cc := cX6_isRegister) (nL := 1) (ret := (some .boolean)) (rm := { frames := 1, cells := 0, slots := 0, locals := 22 }) dX6_mayBe_115 (r_isRegister _ _ _) w_X6_116 rfl ⟨by decide, by decide⟩ (by decide) (by decide) rfl (Nat.le_of_ble_eq_true rfl) (fun x115 I115 J115 q115 => ?_)
        obtain ⟨rfl, rfl, rfl⟩ := rvq q115
        refine pw_if_eq (tgt := 132) dX6_mayBe_118 (by decide) (fun h118 => ?_) (fun h118 => ?_)
        · refine pw_iconst (v := 0) dX6_mayBe_132 (by decide) ?_
          refine pw_iret dX6_mayBe_133 rfl (by first | rfl | exact nb_if) (by decide) (by decide) ?_
          refine ⟨_, rfl, rfl, rfl, ?_, rfl, rfl⟩
          first
            | (subst s1; exact mb_one (by simp (decide := true) only [mbP]; simp only [isIn, if1_eq] at *; grind))
            | (subst s1; exact mb_zero (by simp (decide := true) only [mbP]; simp only [isIn, if1_eq] at *; grind))
            | (subst s1; exact mb_if (by simp (decide := true) only [mbP, if_true, if_false]))
            | exact mb_one (by simp only [mbP, n0, n1, n2, n3, n4, n5, n7, n8, n9, n10, n11, or_self, or_false, false_or, if_false, ite_false, reduceIte]; grind)
            | exact mb_zero (by simp only [mbP, n0, n1, n2, n3, n4, n5, n7, n8, n9, n10, n11, or_self, or_false, false_or, if_false, ite_false, reduceIte]; grind)
        · refine pw_iload_n dX6_mayBe_121 rfl ?_
          refine pw_cSi (y := yX6_isPlace) (cc := cX6_isPlace) (nL := 1) (ret := (some .boolean)) (rm := { frames := 1, cells := 0, slots := 0, locals := 22 }) dX6_mayBe_122 (r_isPlace _ _ _) w_X6_120 rfl ⟨by decide, by decide⟩ (by decide) (by decide) rfl (Nat.le_of_ble_eq_true rfl) (fun x122 I122 J122 q122 => ?_)
          obtain ⟨rfl, rfl, rfl⟩ := rvq q122
          refine pw_if_eq (tgt := 132) dX6_mayBe_125 (by decide) (fun h125 => ?_) (fun h125 => ?_)
          · refine pw_iconst (v := 0) dX6_mayBe_132 (by decide) ?_
            refine pw_iret dX6_mayBe_133 rfl (by first | rfl | exact nb_if) (by decide) (by decide) ?_
            refine ⟨_, rfl, rfl, rfl, ?_, rfl, rfl⟩
            first
              | (subst s1; exact mb_one (by simp (decide := true) only [mbP]; simp only [isIn, if1_eq] at *; grind))
              | (subst s1; exact mb_zero (by simp (decide := true) only [mbP]; simp only [isIn, if1_eq] at *; grind))
              | (subst s1; exact mb_if (by simp (decide := true) only [mbP, if_true, if_false]))
              | exact mb_one (by simp only [mbP, n0, n1, n2, n3, n4, n5, n7, n8, n9, n10, n11, or_self, or_false, false_or, if_false, ite_false, reduceIte]; grind)
              | exact mb_zero (by simp only [mbP, n0, n1, n2, n3, n4, n5, n7, n8, n9, n10, n11, or_self, or_false, false_or, if_false, ite_false, reduceIte]; grind)
          · refine pw_iconst (v := 1) dX6_mayBe_128 (by decide) ?_
            refine pw_goto (tgt := 133) dX6_mayBe_129 (by decide) ?_
            refine pw_iret dX6_mayBe_133 rfl (by first | rfl | exact nb_if) (by decide) (by decide) ?_
            refine ⟨_, rfl, rfl, rfl, ?_, rfl, rfl⟩
            first
              | (subst s1; exact mb_one (by simp (decide := true) only [mbP]; simp only [isIn, if1_eq] at *; grind))
              | (subst s1; exact mb_zero (by simp (decide := true) only [mbP]; simp only [isIn, if1_eq] at *; grind))
              | (subst s1; exact mb_if (by simp (decide := true) only [mbP, if_true, if_false]))
              | exact mb_one (by simp only [mbP, n0, n1, n2, n3, n4, n5, n7, n8, n9, n10, n11, or_self, or_false, false_or, if_false, ite_false, reduceIte]; grind)
              | exact mb_zero (by simp only [mbP, n0, n1, n2, n3, n4, n5, n7, n8, n9, n10, n11, or_self, or_false, false_or, if_false, ite_false, reduceIte]; grind)
    · replace s1 := s1.trans (show _ = (4 : Int32) by decide)
      refine ⟨_, 107, rfl, by decide, ?_⟩
      refine pw_iload_n dX6_mayBe_107 rfl ?_
      refine pw_cSi (y := yX6_isRegister) (cc := cX6_isRegister) (nL := 1) (ret := (some .boolean)) (rm := { frames := 1, cells := 0, slots := 0, locals := 22 }) dX6_mayBe_108 (r_isRegister _ _ _) w_X6_116 rfl ⟨by decide, by decide⟩ (by decide) (by decide) rfl (Nat.le_of_ble_eq_true rfl) (fun x108_1 I108_1 J108_1 q108_1 => ?_)
      obtain ⟨rfl, rfl, rfl⟩ := rvq q108_1
      refine pw_if_eq (tgt := 132) dX6_mayBe_111 (by decide) (fun h111_1 => ?_) (fun h111_1 => ?_)
      · refine pw_iconst (v := 0) dX6_mayBe_132 (by decide) ?_
        refine pw_iret dX6_mayBe_133 rfl (by first | rfl | exact nb_if) (by decide) (by decide) ?_
        refine ⟨_, rfl, rfl, rfl, ?_, rfl, rfl⟩
        first
          | (subst s1; exact mb_one (by simp (decide := true) only [mbP]; simp only [isIn, if1_eq] at *; grind))
          | (subst s1; exact mb_zero (by simp (decide := true) only [mbP]; simp only [isIn, if1_eq] at *; grind))
          | (subst s1; exact mb_if (by simp (decide := true) only [mbP, if_true, if_false]))
          | exact mb_one (by simp only [mbP, n0, n1, n2, n3, n4, n5, n7, n8, n9, n10, n11, or_self, or_false, false_or, if_false, ite_false, reduceIte]; grind)
          | exact mb_zero (by simp only [mbP, n0, n1, n2, n3, n4, n5, n7, n8, n9, n10, n11, or_self, or_false, false_or, if_false, ite_false, reduceIte]; grind)
      · refine pw_iload_n dX6_mayBe_114 rfl ?_
        refine pw_cSi (y := yX6_isRegister) (cc := cX6_isRegister) (nL := 1) (ret := (some .boolean)) (rm := { frames := 1, cells := 0, slots := 0, locals := 22 }) dX6_mayBe_115 (r_isRegister _ _ _) w_X6_116 rfl ⟨by decide, by decide⟩ (by decide) (by decide) rfl (Nat.le_of_ble_eq_true rfl) (fun x115_1 I115_1 J115_1 q115_1 => ?_)
        obtain ⟨rfl, rfl, rfl⟩ := rvq q115_1
        refine pw_if_eq (tgt := 132) dX6_mayBe_118 (by decide) (fun h118_1 => ?_) (fun h118_1 => ?_)
        · refine pw_iconst (v := 0) dX6_mayBe_132 (by decide) ?_
          refine pw_iret dX6_mayBe_133 rfl (by first | rfl | exact nb_if) (by decide) (by decide) ?_
          refine ⟨_, rfl, rfl, rfl, ?_, rfl, rfl⟩
          first
            | (subst s1; exact mb_one (by simp (decide := true) only [mbP]; simp only [isIn, if1_eq] at *; grind))
            | (subst s1; exact mb_zero (by simp (decide := true) only [mbP]; simp only [isIn, if1_eq] at *; grind))
            | (subst s1; exact mb_if (by simp (decide := true) only [mbP, if_true, if_false]))
            | exact mb_one (by simp only [mbP, n0, n1, n2, n3, n4, n5, n7, n8, n9, n10, n11, or_self, or_false, false_or, if_false, ite_false, reduceIte]; grind)
            | exact mb_zero (by simp only [mbP, n0, n1, n2, n3, n4, n5, n7, n8, n9, n10, n11, or_self, or_false, false_or, if_false, ite_false, reduceIte]; grind)
        · refine pw_iload_n dX6_mayBe_121 rfl ?_
          refine pw_cSi (y := yX6_isPlace) (cc := cX6_isPlace) (nL := 1) (ret := (some .boolean)) (rm := { frames := 1, cells := 0, slots := 0, locals := 22 }) dX6_mayBe_122 (r_isPlace _ _ _) w_X6_120 rfl ⟨by decide, by decide⟩ (by decide) (by decide) rfl (Nat.le_of_ble_eq_true rfl) (fun x122_1 I122_1 J122_1 q122_1 => ?_)
          obtain ⟨rfl, rfl, rfl⟩ := rvq q122_1
          refine pw_if_eq (tgt := 132) dX6_mayBe_125 (by decide) (fun h125_1 => ?_) (fun h125_1 => ?_)
          · refine pw_iconst (v := 0) dX6_mayBe_132 (by decide) ?_
            refine pw_iret dX6_mayBe_133 rfl (by first | rfl | exact nb_if) (by decide) (by decide) ?_
            refine ⟨_, rfl, rfl, rfl, ?_, rfl, rfl⟩
            first
              | (subst s1; exact mb_one (by simp (decide := true) only [mbP]; simp only [isIn, if1_eq] at *; grind))
              | (subst s1; exact mb_zero (by simp (decide := true) only [mbP]; simp only [isIn, if1_eq] at *; grind))
              | (subst s1; exact mb_if (by simp (decide := true) only [mbP, if_true, if_false]))
              | exact mb_one (by simp only [mbP, n0, n1, n2, n3, n4, n5, n7, n8, n9, n10, n11, or_self, or_false, false_or, if_false, ite_false, reduceIte]; grind)
              | exact mb_zero (by simp only [mbP, n0, n1, n2, n3, n4, n5, n7, n8, n9, n10, n11, or_self, or_false, false_or, if_false, ite_false, reduceIte]; grind)
          · refine pw_iconst (v := 1) dX6_mayBe_128 (by decide) ?_
            refine pw_goto (tgt := 133) dX6_mayBe_129 (by decide) ?_
            refine pw_iret dX6_mayBe_133 rfl (by first | rfl | exact nb_if) (by decide) (by decide) ?_
            refine ⟨_, rfl, rfl, rfl, ?_, rfl, rfl⟩
            first
              | (subst s1; exact mb_one (by simp (decide := true) only [mbP]; simp only [isIn, if1_eq] at *; grind))
              | (subst s1; exact mb_zero (by simp (decide := true) only [mbP]; simp only [isIn, if1_eq] at *; grind))
              | (subst s1; exact mb_if (by simp (decide := true) only [mbP, if_true, if_false]))
              | exact mb_one (by simp only [mbP, n0, n1, n2, n3, n4, n5, n7, n8, n9, n10, n11, or_self, or_false, false_or, if_false, ite_false, reduceIte]; grind)
              | exact mb_zero (by simp only [mbP, n0, n1, n2, n3, n4, n5, n7, n8, n9, n10, n11, or_self, or_false, false_or, if_false, ite_false, reduceIte]; grind)
    · replace s1 := s1.trans (show _ = (5 : Int32) by decide)
      refine ⟨_, 134, rfl, by decide, ?_⟩
      refine pw_iload_n dX6_mayBe_134 rfl ?_
      refine pw_cSi (y := yX6_isPlace) (cc := cX6_isPlace) (nL := 1) (ret := (some .boolean)) (rm := { frames := 1, cells := 0, slots := 0, locals := 22 }) dX6_mayBe_135 (r_isPlace _ _ _) w_X6_120 rfl ⟨by decide, by decide⟩ (by decide) (by decide) rfl (Nat.le_of_ble_eq_true rfl) (fun x135 I135 J135 q135 => ?_)
      obtain ⟨rfl, rfl, rfl⟩ := rvq q135
      refine pw_iret dX6_mayBe_138 rfl (by first | rfl | exact nb_if) (by decide) (by decide) ?_
      refine ⟨_, rfl, rfl, rfl, ?_, rfl, rfl⟩
      first
        | (subst s1; exact mb_one (by simp (decide := true) only [mbP]; simp only [isIn, if1_eq] at *; grind))
        | (subst s1; exact mb_zero (by simp (decide := true) only [mbP]; simp only [isIn, if1_eq] at *; grind))
        | (subst s1; exact mb_if (by simp (decide := true) only [mbP, if_true, if_false]))
        | exact mb_one (by simp only [mbP, n0, n1, n2, n3, n4, n5, n7, n8, n9, n10, n11, or_self, or_false, false_or, if_false, ite_false, reduceIte]; grind)
        | exact mb_zero (by simp only [mbP, n0, n1, n2, n3, n4, n5, n7, n8, n9, n10, n11, or_self, or_false, false_or, if_false, ite_false, reduceIte]; grind)
    · replace s1 := s1.trans (show _ = (6 : Int32) by decide)
      refine ⟨_, 235, rfl, by decide, ?_⟩
      refine pw_iload_n dX6_mayBe_235 rfl ?_
      refine pw_bipush (v := 6) dX6_mayBe_236 (by decide) ?_
      refine pw_icmp_eq (tgt := 253) dX6_mayBe_238 (by decide) (fun h238 => ?_) (fun h238 => ?_)
      · refine pw_iconst (v := 1) dX6_mayBe_253 (by decide) ?_
        refine pw_goto (tgt := 258) dX6_mayBe_254 (by decide) ?_
        refine pw_iret dX6_mayBe_258 rfl (by first | rfl | exact nb_if) (by decide) (by decide) ?_
        refine ⟨_, rfl, rfl, rfl, ?_, rfl, rfl⟩
        first
          | (subst s1; exact mb_one (by simp (decide := true) only [mbP]; simp only [isIn, if1_eq] at *; grind))
          | (subst s1; exact mb_zero (by simp (decide := true) only [mbP]; simp only [isIn, if1_eq] at *; grind))
          | (subst s1; exact mb_if (by simp (decide := true) only [mbP, if_true, if_false]))
          | exact mb_one (by simp only [mbP, n0, n1, n2, n3, n4, n5, n7, n8, n9, n10, n11, or_self, or_false, false_or, if_false, ite_false, reduceIte]; grind)
          | exact mb_zero (by simp only [mbP, n0, n1, n2, n3, n4, n5, n7, n8, n9, n10, n11, or_self, or_false, false_or, if_false, ite_false, reduceIte]; grind)
      · refine pw_iload_n dX6_mayBe_241 rfl ?_
        refine pw_bipush (v := 12) dX6_mayBe_242 (by decide) ?_
        refine pw_icmp_eq (tgt := 253) dX6_mayBe_244 (by decide) (fun h244 => ?_) (fun h244 => ?_)
        · refine pw_iconst (v := 1) dX6_mayBe_253 (by decide) ?_
          refine pw_goto (tgt := 258) dX6_mayBe_254 (by decide) ?_
          refine pw_iret dX6_mayBe_258 rfl (by first | rfl | exact nb_if) (by decide) (by decide) ?_
          refine ⟨_, rfl, rfl, rfl, ?_, rfl, rfl⟩
          first
            | (subst s1; exact mb_one (by simp (decide := true) only [mbP]; simp only [isIn, if1_eq] at *; grind))
            | (subst s1; exact mb_zero (by simp (decide := true) only [mbP]; simp only [isIn, if1_eq] at *; grind))
            | (subst s1; exact mb_if (by simp (decide := true) only [mbP, if_true, if_false]))
            | exact mb_one (by simp only [mbP, n0, n1, n2, n3, n4, n5, n7, n8, n9, n10, n11, or_self, or_false, false_or, if_false, ite_false, reduceIte]; grind)
            | exact mb_zero (by simp only [mbP, n0, n1, n2, n3, n4, n5, n7, n8, n9, n10, n11, or_self, or_false, false_or, if_false, ite_false, reduceIte]; grind)
        · refine pw_iload_n dX6_mayBe_247 rfl ?_
          refine pw_bipush (v := 13) dX6_mayBe_248 (by decide) ?_
          refine pw_icmp_ne (tgt := 257) dX6_mayBe_250 (by decide) (fun h250 => ?_) (fun h250 => ?_)
          · refine pw_iconst (v := 0) dX6_mayBe_257 (by decide) ?_
            refine pw_iret dX6_mayBe_258 rfl (by first | rfl | exact nb_if) (by decide) (by decide) ?_
            refine ⟨_, rfl, rfl, rfl, ?_, rfl, rfl⟩
            first
              | (subst s1; exact mb_one (by simp (decide := true) only [mbP]; simp only [isIn, if1_eq] at *; grind))
              | (subst s1; exact mb_zero (by simp (decide := true) only [mbP]; simp only [isIn, if1_eq] at *; grind))
              | (subst s1; exact mb_if (by simp (decide := true) only [mbP, if_true, if_false]))
              | exact mb_one (by simp only [mbP, n0, n1, n2, n3, n4, n5, n7, n8, n9, n10, n11, or_self, or_false, false_or, if_false, ite_false, reduceIte]; grind)
              | exact mb_zero (by simp only [mbP, n0, n1, n2, n3, n4, n5, n7, n8, n9, n10, n11, or_self, or_false, false_or, if_false, ite_false, reduceIte]; grind)
          · refine pw_iconst (v := 1) dX6_mayBe_253 (by decide) ?_
            refine pw_goto (tgt := 258) dX6_mayBe_254 (by decide) ?_
            refine pw_iret dX6_mayBe_258 rfl (by first | rfl | exact nb_if) (by decide) (by decide) ?_
            refine ⟨_, rfl, rfl, rfl, ?_, rfl, rfl⟩
            first
              | (subst s1; exact mb_one (by simp (decide := true) only [mbP]; simp only [isIn, if1_eq] at *; grind))
              | (subst s1; exact mb_zero (by simp (decide := true) only [mbP]; simp only [isIn, if1_eq] at *; grind))
              | (subst s1; exact mb_if (by simp (decide := true) only [mbP, if_true, if_false]))
              | exact mb_one (by simp only [mbP, n0, n1, n2, n3, n4, n5, n7, n8, n9, n10, n11, or_self, or_false, false_or, if_false, ite_false, reduceIte]; grind)
              | exact mb_zero (by simp only [mbP, n0, n1, n2, n3, n4, n5, n7, n8, n9, n10, n11, or_self, or_false, false_or, if_false, ite_false, reduceIte]; grind)
    · replace s1 := s1.trans (show _ = (7 : Int32) by decide)
      refine ⟨_, 139, rfl, by decide, ?_⟩
      refine pw_iload_n dX6_mayBe_139 rfl ?_
      refine pw_cSi (y := yX6_isRegister) (cc := cX6_isRegister) (nL := 1) (ret := (some .boolean)) (rm := { frames := 1, cells := 0, slots := 0, locals := 22 }) dX6_mayBe_140 (r_isRegister _ _ _) w_X6_116 rfl ⟨by decide, by decide⟩ (by decide) (by decide) rfl (Nat.le_of_ble_eq_true rfl) (fun x140 I140 J140 q140 => ?_)
      obtain ⟨rfl, rfl, rfl⟩ := rvq q140
      refine pw_if_eq (tgt := 170) dX6_mayBe_143 (by decide) (fun h143 => ?_) (fun h143 => ?_)
      · refine pw_iconst (v := 0) dX6_mayBe_170 (by decide) ?_
        refine pw_iret dX6_mayBe_171 rfl (by first | rfl | exact nb_if) (by decide) (by decide) ?_
        refine ⟨_, rfl, rfl, rfl, ?_, rfl, rfl⟩
        first
          | (subst s1; exact mb_one (by simp (decide := true) only [mbP]; simp only [isIn, if1_eq] at *; grind))
          | (subst s1; exact mb_zero (by simp (decide := true) only [mbP]; simp only [isIn, if1_eq] at *; grind))
          | (subst s1; exact mb_if (by simp (decide := true) only [mbP, if_true, if_false]))
          | exact mb_one (by simp only [mbP, n0, n1, n2, n3, n4, n5, n7, n8, n9, n10, n11, or_self, or_false, false_or, if_false, ite_false, reduceIte]; grind)
          | exact mb_zero (by simp only [mbP, n0, n1, n2, n3, n4, n5, n7, n8, n9, n10, n11, or_self, or_false, false_or, if_false, ite_false, reduceIte]; grind)
      · refine pw_iload_n dX6_mayBe_146 rfl ?_
        refine pw_iconst (v := 0) dX6_mayBe_147 (by decide) ?_
        refine pw_bipush (v := 7) dX6_mayBe_148 (by decide) ?_
        refine pw_cSi (y := yX6_in) (cc := cX6_in) (nL := 3) (ret := (some .boolean)) (rm := { frames := 0, cells := 0, slots := 0, locals := 0 }) dX6_mayBe_150 (r_in _ _ _ _ _) w_X6_102 rfl ⟨by decide, by decide⟩ (by decide) (by decide) rfl (Nat.le_of_ble_eq_true rfl) (fun x150 I150 J150 q150 => ?_)
        obtain ⟨rfl, rfl, rfl⟩ := rvq q150
        refine pw_if_eq (tgt := 170) dX6_mayBe_153 (by decide) (fun h153 => ?_) (fun h153 => ?_)
        · refine pw_iconst (v := 0) dX6_mayBe_170 (by decide) ?_
          refine pw_iret dX6_mayBe_171 rfl (by first | rfl | exact nb_if) (by decide) (by decide) ?_
          refine ⟨_, rfl, rfl, rfl, ?_, rfl, rfl⟩
          first
            | (subst s1; exact mb_one (by simp (decide := true) only [mbP]; simp only [isIn, if1_eq] at *; grind))
            | (subst s1; exact mb_zero (by simp (decide := true) only [mbP]; simp only [isIn, if1_eq] at *; grind))
            | (subst s1; exact mb_if (by simp (decide := true) only [mbP, if_true, if_false]))
            | exact mb_one (by simp only [mbP, n0, n1, n2, n3, n4, n5, n7, n8, n9, n10, n11, or_self, or_false, false_or, if_false, ite_false, reduceIte]; grind)
            | exact mb_zero (by simp only [mbP, n0, n1, n2, n3, n4, n5, n7, n8, n9, n10, n11, or_self, or_false, false_or, if_false, ite_false, reduceIte]; grind)
        · refine pw_iload_n dX6_mayBe_156 rfl ?_
          refine pw_iconst (v := 0) dX6_mayBe_157 (by decide) ?_
          refine pw_bipush (v := 6) dX6_mayBe_158 (by decide) ?_
          refine pw_cSi (y := yX6_in) (cc := cX6_in) (nL := 3) (ret := (some .boolean)) (rm := { frames := 0, cells := 0, slots := 0, locals := 0 }) dX6_mayBe_160 (r_in _ _ _ _ _) w_X6_102 rfl ⟨by decide, by decide⟩ (by decide) (by decide) rfl (Nat.le_of_ble_eq_true rfl) (fun x160 I160 J160 q160 => ?_)
          obtain ⟨rfl, rfl, rfl⟩ := rvq q160
          refine pw_if_eq (tgt := 170) dX6_mayBe_163 (by decide) (fun h163 => ?_) (fun h163 => ?_)
          · refine pw_iconst (v := 0) dX6_mayBe_170 (by decide) ?_
            refine pw_iret dX6_mayBe_171 rfl (by first | rfl | exact nb_if) (by decide) (by decide) ?_
            refine ⟨_, rfl, rfl, rfl, ?_, rfl, rfl⟩
            first
              | (subst s1; exact mb_one (by simp (decide := true) only [mbP]; simp only [isIn, if1_eq] at *; grind))
              | (subst s1; exact mb_zero (by simp (decide := true) only [mbP]; simp only [isIn, if1_eq] at *; grind))
              | (subst s1; exact mb_if (by simp (decide := true) only [mbP, if_true, if_false]))
              | exact mb_one (by simp only [mbP, n0, n1, n2, n3, n4, n5, n7, n8, n9, n10, n11, or_self, or_false, false_or, if_false, ite_false, reduceIte]; grind)
              | exact mb_zero (by simp only [mbP, n0, n1, n2, n3, n4, n5, n7, n8, n9, n10, n11, or_self, or_false, false_or, if_false, ite_false, reduceIte]; grind)
          · refine pw_iconst (v := 1) dX6_mayBe_166 (by decide) ?_
            refine pw_goto (tgt := 171) dX6_mayBe_167 (by decide) ?_
            refine pw_iret dX6_mayBe_171 rfl (by first | rfl | exact nb_if) (by decide) (by decide) ?_
            refine ⟨_, rfl, rfl, rfl, ?_, rfl, rfl⟩
            first
              | (subst s1; exact mb_one (by simp (decide := true) only [mbP]; simp only [isIn, if1_eq] at *; grind))
              | (subst s1; exact mb_zero (by simp (decide := true) only [mbP]; simp only [isIn, if1_eq] at *; grind))
              | (subst s1; exact mb_if (by simp (decide := true) only [mbP, if_true, if_false]))
              | exact mb_one (by simp only [mbP, n0, n1, n2, n3, n4, n5, n7, n8, n9, n10, n11, or_self, or_false, false_or, if_false, ite_false, reduceIte]; grind)
              | exact mb_zero (by simp only [mbP, n0, n1, n2, n3, n4, n5, n7, n8, n9, n10, n11, or_self, or_false, false_or, if_false, ite_false, reduceIte]; grind)
    · replace s1 := s1.trans (show _ = (8 : Int32) by decide)
      refine ⟨_, 139, rfl, by decide, ?_⟩
      refine pw_iload_n dX6_mayBe_139 rfl ?_
      refine pw_cSi (y := yX6_isRegister) (cc := cX6_isRegister) (nL := 1) (ret := (some .boolean)) (rm := { frames := 1, cells := 0, slots := 0, locals := 22 }) dX6_mayBe_140 (r_isRegister _ _ _) w_X6_116 rfl ⟨by decide, by decide⟩ (by decide) (by decide) rfl (Nat.le_of_ble_eq_true rfl) (fun x140_1 I140_1 J140_1 q140_1 => ?_)
      obtain ⟨rfl, rfl, rfl⟩ := rvq q140_1
      refine pw_if_eq (tgt := 170) dX6_mayBe_143 (by decide) (fun h143_1 => ?_) (fun h143_1 => ?_)
      · refine pw_iconst (v := 0) dX6_mayBe_170 (by decide) ?_
        refine pw_iret dX6_mayBe_171 rfl (by first | rfl | exact nb_if) (by decide) (by decide) ?_
        refine ⟨_, rfl, rfl, rfl, ?_, rfl, rfl⟩
        first
          | (subst s1; exact mb_one (by simp (decide := true) only [mbP]; simp only [isIn, if1_eq] at *; grind))
          | (subst s1; exact mb_zero (by simp (decide := true) only [mbP]; simp only [isIn, if1_eq] at *; grind))
          | (subst s1; exact mb_if (by simp (decide := true) only [mbP, if_true, if_false]))
          | exact mb_one (by simp only [mbP, n0, n1, n2, n3, n4, n5, n7, n8, n9, n10, n11, or_self, or_false, false_or, if_false, ite_false, reduceIte]; grind)
          | exact mb_zero (by simp only [mbP, n0, n1, n2, n3, n4, n5, n7, n8, n9, n10, n11, or_self, or_false, false_or, if_false, ite_false, reduceIte]; grind)
      · refine pw_iload_n dX6_mayBe_146 rfl ?_
        refine pw_iconst (v := 0) dX6_mayBe_147 (by decide) ?_
        refine pw_bipush (v := 7) dX6_mayBe_148 (by decide) ?_
        refine pw_cSi (y := yX6_in) (cc := cX6_in) (nL := 3) (ret := (some .boolean)) (rm := { frames := 0, cells := 0, slots := 0, locals := 0 }) dX6_mayBe_150 (r_in _ _ _ _ _) w_X6_102 rfl ⟨by decide, by decide⟩ (by decide) (by decide) rfl (Nat.le_of_ble_eq_true rfl) (fun x150_1 I150_1 J150_1 q150_1 => ?_)
        obtain ⟨rfl, rfl, rfl⟩ := rvq q150_1
        refine pw_if_eq (tgt := 170) dX6_mayBe_153 (by decide) (fun h153_1 => ?_) (fun h153_1 => ?_)
        · refine pw_iconst (v := 0) dX6_mayBe_170 (by decide) ?_
          refine pw_iret dX6_mayBe_171 rfl (by first | rfl | exact nb_if) (by decide) (by decide) ?_
          refine ⟨_, rfl, rfl, rfl, ?_, rfl, rfl⟩
          first
            | (subst s1; exact mb_one (by simp (decide := true) only [mbP]; simp only [isIn, if1_eq] at *; grind))
            | (subst s1; exact mb_zero (by simp (decide := true) only [mbP]; simp only [isIn, if1_eq] at *; grind))
            | (subst s1; exact mb_if (by simp (decide := true) only [mbP, if_true, if_false]))
            | exact mb_one (by simp only [mbP, n0, n1, n2, n3, n4, n5, n7, n8, n9, n10, n11, or_self, or_false, false_or, if_false, ite_false, reduceIte]; grind)
            | exact mb_zero (by simp only [mbP, n0, n1, n2, n3, n4, n5, n7, n8, n9, n10, n11, or_self, or_false, false_or, if_false, ite_false, reduceIte]; grind)
        · refine pw_iload_n dX6_mayBe_156 rfl ?_
          refine pw_iconst (v := 0) dX6_mayBe_157 (by decide) ?_
          refine pw_bipush (v := 6) dX6_mayBe_158 (by decide) ?_
          refine pw_cSi (y := yX6_in) (cc := cX6_in) (nL := 3) (ret := (some .boolean)) (rm := { frames := 0, cells := 0, slots := 0, locals := 0 }) dX6_mayBe_160 (r_in _ _ _ _ _) w_X6_102 rfl ⟨by decide, by decide⟩ (by decide) (by decide) rfl (Nat.le_of_ble_eq_true rfl) (fun x160_1 I160_1 J160_1 q160_1 => ?_)
          obtain ⟨rfl, rfl, rfl⟩ := rvq q160_1
          refine pw_if_eq (tgt := 170) dX6_mayBe_163 (by decide) (fun h163_1 => ?_) (fun h163_1 => ?_)
          · refine pw_iconst (v := 0) dX6_mayBe_170 (by decide) ?_
            refine pw_iret dX6_mayBe_171 rfl (by first | rfl | exact nb_if) (by decide) (by decide) ?_
            refine ⟨_, rfl, rfl, rfl, ?_, rfl, rfl⟩
            first
              | (subst s1; exact mb_one (by simp (decide := true) only [mbP]; simp only [isIn, if1_eq] at *; grind))
              | (subst s1; exact mb_zero (by simp (decide := true) only [mbP]; simp only [isIn, if1_eq] at *; grind))
              | (subst s1; exact mb_if (by simp (decide := true) only [mbP, if_true, if_false]))
              | exact mb_one (by simp only [mbP, n0, n1, n2, n3, n4, n5, n7, n8, n9, n10, n11, or_self, or_false, false_or, if_false, ite_false, reduceIte]; grind)
              | exact mb_zero (by simp only [mbP, n0, n1, n2, n3, n4, n5, n7, n8, n9, n10, n11, or_self, or_false, false_or, if_false, ite_false, reduceIte]; grind)
          · refine pw_iconst (v := 1) dX6_mayBe_166 (by decide) ?_
            refine pw_goto (tgt := 171) dX6_mayBe_167 (by decide) ?_
            refine pw_iret dX6_mayBe_171 rfl (by first | rfl | exact nb_if) (by decide) (by decide) ?_
            refine ⟨_, rfl, rfl, rfl, ?_, rfl, rfl⟩
            first
              | (subst s1; exact mb_one (by simp (decide := true) only [mbP]; simp only [isIn, if1_eq] at *; grind))
              | (subst s1; exact mb_zero (by simp (decide := true) only [mbP]; simp only [isIn, if1_eq] at *; grind))
              | (subst s1; exact mb_if (by simp (decide := true) only [mbP, if_true, if_false]))
              | exact mb_one (by simp only [mbP, n0, n1, n2, n3, n4, n5, n7, n8, n9, n10, n11, or_self, or_false, false_or, if_false, ite_false, reduceIte]; grind)
              | exact mb_zero (by simp only [mbP, n0, n1, n2, n3, n4, n5, n7, n8, n9, n10, n11, or_self, or_false, false_or, if_false, ite_false, reduceIte]; grind)
    · replace s1 := s1.trans (show _ = (9 : Int32) by decide)
      refine ⟨_, 139, rfl, by decide, ?_⟩
      refine pw_iload_n dX6_mayBe_139 rfl ?_
      refine pw_cSi (y := yX6_isRegister) (cc := cX6_isRegister) (nL := 1) (ret := (some .boolean)) (rm := { frames := 1, cells := 0, slots := 0, locals := 22 }) dX6_mayBe_140 (r_isRegister _ _ _) w_X6_116 rfl ⟨by decide, by decide⟩ (by decide) (by decide) rfl (Nat.le_of_ble_eq_true rfl) (fun x140_2 I140_2 J140_2 q140_2 => ?_)
      obtain ⟨rfl, rfl, rfl⟩ := rvq q140_2
      refine pw_if_eq (tgt := 170) dX6_mayBe_143 (by decide) (fun h143_2 => ?_) (fun h143_2 => ?_)
      · refine pw_iconst (v := 0) dX6_mayBe_170 (by decide) ?_
        refine pw_iret dX6_mayBe_171 rfl (by first | rfl | exact nb_if) (by decide) (by decide) ?_
        refine ⟨_, rfl, rfl, rfl, ?_, rfl, rfl⟩
        first
          | (subst s1; exact mb_one (by simp (decide := true) only [mbP]; simp only [isIn, if1_eq] at *; grind))
          | (subst s1; exact mb_zero (by simp (decide := true) only [mbP]; simp only [isIn, if1_eq] at *; grind))
          | (subst s1; exact mb_if (by simp (decide := true) only [mbP, if_true, if_false]))
          | exact mb_one (by simp only [mbP, n0, n1, n2, n3, n4, n5, n7, n8, n9, n10, n11, or_self, or_false, false_or, if_false, ite_false, reduceIte]; grind)
          | exact mb_zero (by simp only [mbP, n0, n1, n2, n3, n4, n5, n7, n8, n9, n10, n11, or_self, or_false, false_or, if_false, ite_false, reduceIte]; grind)
      · refine pw_iload_n dX6_mayBe_146 rfl ?_
        refine pw_iconst (v := 0) dX6_mayBe_147 (by decide) ?_
        refine pw_bipush (v := 7) dX6_mayBe_148 (by decide) ?_
        refine pw_cSi (y := yX6_in) (cc := cX6_in) (nL := 3) (ret := (some .boolean)) (rm := { frames := 0, cells := 0, slots := 0, locals := 0 }) dX6_mayBe_150 (r_in _ _ _ _ _) w_X6_102 rfl ⟨by decide, by decide⟩ (by decide) (by decide) rfl (Nat.le_of_ble_eq_true rfl) (fun x150_2 I150_2 J150_2 q150_2 => ?_)
        obtain ⟨rfl, rfl, rfl⟩ := rvq q150_2
        refine pw_if_eq (tgt := 170) dX6_mayBe_153 (by decide) (fun h153_2 => ?_) (fun h153_2 => ?_)
        · refine pw_iconst (v := 0) dX6_mayBe_170 (by decide) ?_
          refine pw_iret dX6_mayBe_171 rfl (by first | rfl | exact nb_if) (by decide) (by decide) ?_
          refine ⟨_, rfl, rfl, rfl, ?_, rfl, rfl⟩
          first
            | (subst s1; exact mb_one (by simp (decide := true) only [mbP]; simp only [isIn, if1_eq] at *; grind))
            | (subst s1; exact mb_zero (by simp (decide := true) only [mbP]; simp only [isIn, if1_eq] at *; grind))
            | (subst s1; exact mb_if (by simp (decide := true) only [mbP, if_true, if_false]))
            | exact mb_one (by simp only [mbP, n0, n1, n2, n3, n4, n5, n7, n8, n9, n10, n11, or_self, or_false, false_or, if_false, ite_false, reduceIte]; grind)
            | exact mb_zero (by simp only [mbP, n0, n1, n2, n3, n4, n5, n7, n8, n9, n10, n11, or_self, or_false, false_or, if_false, ite_false, reduceIte]; grind)
        · refine pw_iload_n dX6_mayBe_156 rfl ?_
          refine pw_iconst (v := 0) dX6_mayBe_157 (by decide) ?_
          refine pw_bipush (v := 6) dX6_mayBe_158 (by decide) ?_
          refine pw_cSi (y := yX6_in) (cc := cX6_in) (nL := 3) (ret := (some .boolean)) (rm := { frames := 0, cells := 0, slots := 0, locals := 0 }) dX6_mayBe_160 (r_in _ _ _ _ _) w_X6_102 rfl ⟨by decide, by decide⟩ (by decide) (by decide) rfl (Nat.le_of_ble_eq_true rfl) (fun x160_2 I160_2 J160_2 q160_2 => ?_)
          obtain ⟨rfl, rfl, rfl⟩ := rvq q160_2
          refine pw_if_eq (tgt := 170) dX6_mayBe_163 (by decide) (fun h163_2 => ?_) (fun h163_2 => ?_)
          · refine pw_iconst (v := 0) dX6_mayBe_170 (by decide) ?_
            refine pw_iret dX6_mayBe_171 rfl (by first | rfl | exact nb_if) (by decide) (by decide) ?_
            refine ⟨_, rfl, rfl, rfl, ?_, rfl, rfl⟩
            first
              | (subst s1; exact mb_one (by simp (decide := true) only [mbP]; simp only [isIn, if1_eq] at *; grind))
              | (subst s1; exact mb_zero (by simp (decide := true) only [mbP]; simp only [isIn, if1_eq] at *; grind))
              | (subst s1; exact mb_if (by simp (decide := true) only [mbP, if_true, if_false]))
              | exact mb_one (by simp only [mbP, n0, n1, n2, n3, n4, n5, n7, n8, n9, n10, n11, or_self, or_false, false_or, if_false, ite_false, reduceIte]; grind)
              | exact mb_zero (by simp only [mbP, n0, n1, n2, n3, n4, n5, n7, n8, n9, n10, n11, or_self, or_false, false_or, if_false, ite_false, reduceIte]; grind)
          · refine pw_iconst (v := 1) dX6_mayBe_166 (by decide) ?_
            refine pw_goto (tgt := 171) dX6_mayBe_167 (by decide) ?_
            refine pw_iret dX6_mayBe_171 rfl (by first | rfl | exact nb_if) (by decide) (by decide) ?_
            refine ⟨_, rfl, rfl, rfl, ?_, rfl, rfl⟩
            first
              | (subst s1; exact mb_one (by simp (decide := true) only [mbP]; simp only [isIn, if1_eq] at *; grind))
              | (subst s1; exact mb_zero (by simp (decide := true) only [mbP]; simp only [isIn, if1_eq] at *; grind))
              | (subst s1; exact mb_if (by simp (decide := true) only [mbP, if_true, if_false]))
              | exact mb_one (by simp only [mbP, n0, n1, n2, n3, n4, n5, n7, n8, n9, n10, n11, or_self, or_false, false_or, if_false, ite_false, reduceIte]; grind)
              | exact mb_zero (by simp only [mbP, n0, n1, n2, n3, n4, n5, n7, n8, n9, n10, n11, or_self, or_false, false_or, if_false, ite_false, reduceIte]; grind)
    · replace s1 := s1.trans (show _ = (10 : Int32) by decide)
      refine ⟨_, 172, rfl, by decide, ?_⟩
      refine pw_iload_n dX6_mayBe_172 rfl ?_
      refine pw_cSi (y := yX6_isRegister) (cc := cX6_isRegister) (nL := 1) (ret := (some .boolean)) (rm := { frames := 1, cells := 0, slots := 0, locals := 22 }) dX6_mayBe_173 (r_isRegister _ _ _) w_X6_116 rfl ⟨by decide, by decide⟩ (by decide) (by decide) rfl (Nat.le_of_ble_eq_true rfl) (fun x173 I173 J173 q173 => ?_)
      obtain ⟨rfl, rfl, rfl⟩ := rvq q173
      refine pw_if_eq (tgt := 203) dX6_mayBe_176 (by decide) (fun h176 => ?_) (fun h176 => ?_)
      · refine pw_iconst (v := 0) dX6_mayBe_203 (by decide) ?_
        refine pw_iret dX6_mayBe_204 rfl (by first | rfl | exact nb_if) (by decide) (by decide) ?_
        refine ⟨_, rfl, rfl, rfl, ?_, rfl, rfl⟩
        first
          | (subst s1; exact mb_one (by simp (decide := true) only [mbP]; simp only [isIn, if1_eq] at *; grind))
          | (subst s1; exact mb_zero (by simp (decide := true) only [mbP]; simp only [isIn, if1_eq] at *; grind))
          | (subst s1; exact mb_if (by simp (decide := true) only [mbP, if_true, if_false]))
          | exact mb_one (by simp only [mbP, n0, n1, n2, n3, n4, n5, n7, n8, n9, n10, n11, or_self, or_false, false_or, if_false, ite_false, reduceIte]; grind)
          | exact mb_zero (by simp only [mbP, n0, n1, n2, n3, n4, n5, n7, n8, n9, n10, n11, or_self, or_false, false_or, if_false, ite_false, reduceIte]; grind)
      · refine pw_iload_n dX6_mayBe_179 rfl ?_
        refine pw_iconst (v := 0) dX6_mayBe_180 (by decide) ?_
        refine pw_bipush (v := 7) dX6_mayBe_181 (by decide) ?_
        refine pw_cSi (y := yX6_in) (cc := cX6_in) (nL := 3) (ret := (some .boolean)) (rm := { frames := 0, cells := 0, slots := 0, locals := 0 }) dX6_mayBe_183 (r_in _ _ _ _ _) w_X6_102 rfl ⟨by decide, by decide⟩ (by decide) (by decide) rfl (Nat.le_of_ble_eq_true rfl) (fun x183 I183 J183 q183 => ?_)
        obtain ⟨rfl, rfl, rfl⟩ := rvq q183
        refine pw_if_eq (tgt := 203) dX6_mayBe_186 (by decide) (fun h186 => ?_) (fun h186 => ?_)
        · refine pw_iconst (v := 0) dX6_mayBe_203 (by decide) ?_
          refine pw_iret dX6_mayBe_204 rfl (by first | rfl | exact nb_if) (by decide) (by decide) ?_
          refine ⟨_, rfl, rfl, rfl, ?_, rfl, rfl⟩
          first
            | (subst s1; exact mb_one (by simp (decide := true) only [mbP]; simp only [isIn, if1_eq] at *; grind))
            | (subst s1; exact mb_zero (by simp (decide := true) only [mbP]; simp only [isIn, if1_eq] at *; grind))
            | (subst s1; exact mb_if (by simp (decide := true) only [mbP, if_true, if_false]))
            | exact mb_one (by simp only [mbP, n0, n1, n2, n3, n4, n5, n7, n8, n9, n10, n11, or_self, or_false, false_or, if_false, ite_false, reduceIte]; grind)
            | exact mb_zero (by simp only [mbP, n0, n1, n2, n3, n4, n5, n7, n8, n9, n10, n11, or_self, or_false, false_or, if_false, ite_false, reduceIte]; grind)
        · refine pw_iload_n dX6_mayBe_189 rfl ?_
          refine pw_iconst (v := 0) dX6_mayBe_190 (by decide) ?_
          refine pw_bipush (v := 15) dX6_mayBe_191 (by decide) ?_
          refine pw_cSi (y := yX6_in) (cc := cX6_in) (nL := 3) (ret := (some .boolean)) (rm := { frames := 0, cells := 0, slots := 0, locals := 0 }) dX6_mayBe_193 (r_in _ _ _ _ _) w_X6_102 rfl ⟨by decide, by decide⟩ (by decide) (by decide) rfl (Nat.le_of_ble_eq_true rfl) (fun x193 I193 J193 q193 => ?_)
          obtain ⟨rfl, rfl, rfl⟩ := rvq q193
          refine pw_if_eq (tgt := 203) dX6_mayBe_196 (by decide) (fun h196 => ?_) (fun h196 => ?_)
          · refine pw_iconst (v := 0) dX6_mayBe_203 (by decide) ?_
            refine pw_iret dX6_mayBe_204 rfl (by first | rfl | exact nb_if) (by decide) (by decide) ?_
            refine ⟨_, rfl, rfl, rfl, ?_, rfl, rfl⟩
            first
              | (subst s1; exact mb_one (by simp (decide := true) only [mbP]; simp only [isIn, if1_eq] at *; grind))
              | (subst s1; exact mb_zero (by simp (decide := true) only [mbP]; simp only [isIn, if1_eq] at *; grind))
              | (subst s1; exact mb_if (by simp (decide := true) only [mbP, if_true, if_false]))
              | exact mb_one (by simp only [mbP, n0, n1, n2, n3, n4, n5, n7, n8, n9, n10, n11, or_self, or_false, false_or, if_false, ite_false, reduceIte]; grind)
              | exact mb_zero (by simp only [mbP, n0, n1, n2, n3, n4, n5, n7, n8, n9, n10, n11, or_self, or_false, false_or, if_false, ite_false, reduceIte]; grind)
          · refine pw_iconst (v := 1) dX6_mayBe_199 (by decide) ?_
            refine pw_goto (tgt := 204) dX6_mayBe_200 (by decide) ?_
            refine pw_iret dX6_mayBe_204 rfl (by first | rfl | exact nb_if) (by decide) (by decide) ?_
            refine ⟨_, rfl, rfl, rfl, ?_, rfl, rfl⟩
            first
              | (subst s1; exact mb_one (by simp (decide := true) only [mbP]; simp only [isIn, if1_eq] at *; grind))
              | (subst s1; exact mb_zero (by simp (decide := true) only [mbP]; simp only [isIn, if1_eq] at *; grind))
              | (subst s1; exact mb_if (by simp (decide := true) only [mbP, if_true, if_false]))
              | exact mb_one (by simp only [mbP, n0, n1, n2, n3, n4, n5, n7, n8, n9, n10, n11, or_self, or_false, false_or, if_false, ite_false, reduceIte]; grind)
              | exact mb_zero (by simp only [mbP, n0, n1, n2, n3, n4, n5, n7, n8, n9, n10, n11, or_self, or_false, false_or, if_false, ite_false, reduceIte]; grind)
    · replace s1 := s1.trans (show _ = (11 : Int32) by decide)
      refine ⟨_, 205, rfl, by decide, ?_⟩
      refine pw_iload_n dX6_mayBe_205 rfl ?_
      refine pw_cSi (y := yX6_isRegister) (cc := cX6_isRegister) (nL := 1) (ret := (some .boolean)) (rm := { frames := 1, cells := 0, slots := 0, locals := 22 }) dX6_mayBe_206 (r_isRegister _ _ _) w_X6_116 rfl ⟨by decide, by decide⟩ (by decide) (by decide) rfl (Nat.le_of_ble_eq_true rfl) (fun x206 I206 J206 q206 => ?_)
      obtain ⟨rfl, rfl, rfl⟩ := rvq q206
      refine pw_if_eq (tgt := 233) dX6_mayBe_209 (by decide) (fun h209 => ?_) (fun h209 => ?_)
      · refine pw_iconst (v := 0) dX6_mayBe_233 (by decide) ?_
        refine pw_iret dX6_mayBe_234 rfl (by first | rfl | exact nb_if) (by decide) (by decide) ?_
        refine ⟨_, rfl, rfl, rfl, ?_, rfl, rfl⟩
        first
          | (subst s1; exact mb_one (by simp (decide := true) only [mbP]; simp only [isIn, if1_eq] at *; grind))
          | (subst s1; exact mb_zero (by simp (decide := true) only [mbP]; simp only [isIn, if1_eq] at *; grind))
          | (subst s1; exact mb_if (by simp (decide := true) only [mbP, if_true, if_false]))
          | exact mb_one (by simp only [mbP, n0, n1, n2, n3, n4, n5, n7, n8, n9, n10, n11, or_self, or_false, false_or, if_false, ite_false, reduceIte]; grind)
          | exact mb_zero (by simp only [mbP, n0, n1, n2, n3, n4, n5, n7, n8, n9, n10, n11, or_self, or_false, false_or, if_false, ite_false, reduceIte]; grind)
      · refine pw_iload_n dX6_mayBe_212 rfl ?_
        refine pw_iconst (v := 0) dX6_mayBe_213 (by decide) ?_
        refine pw_bipush (v := 7) dX6_mayBe_214 (by decide) ?_
        refine pw_cSi (y := yX6_in) (cc := cX6_in) (nL := 3) (ret := (some .boolean)) (rm := { frames := 0, cells := 0, slots := 0, locals := 0 }) dX6_mayBe_216 (r_in _ _ _ _ _) w_X6_102 rfl ⟨by decide, by decide⟩ (by decide) (by decide) rfl (Nat.le_of_ble_eq_true rfl) (fun x216 I216 J216 q216 => ?_)
        obtain ⟨rfl, rfl, rfl⟩ := rvq q216
        refine pw_if_eq (tgt := 233) dX6_mayBe_219 (by decide) (fun h219 => ?_) (fun h219 => ?_)
        · refine pw_iconst (v := 0) dX6_mayBe_233 (by decide) ?_
          refine pw_iret dX6_mayBe_234 rfl (by first | rfl | exact nb_if) (by decide) (by decide) ?_
          refine ⟨_, rfl, rfl, rfl, ?_, rfl, rfl⟩
          first
            | (subst s1; exact mb_one (by simp (decide := true) only [mbP]; simp only [isIn, if1_eq] at *; grind))
            | (subst s1; exact mb_zero (by simp (decide := true) only [mbP]; simp only [isIn, if1_eq] at *; grind))
            | (subst s1; exact mb_if (by simp (decide := true) only [mbP, if_true, if_false]))
            | exact mb_one (by simp only [mbP, n0, n1, n2, n3, n4, n5, n7, n8, n9, n10, n11, or_self, or_false, false_or, if_false, ite_false, reduceIte]; grind)
            | exact mb_zero (by simp only [mbP, n0, n1, n2, n3, n4, n5, n7, n8, n9, n10, n11, or_self, or_false, false_or, if_false, ite_false, reduceIte]; grind)
        · refine pw_iload_n dX6_mayBe_222 rfl ?_
          refine pw_cSi (y := yX6_isRegister) (cc := cX6_isRegister) (nL := 1) (ret := (some .boolean)) (rm := { frames := 1, cells := 0, slots := 0, locals := 22 }) dX6_mayBe_223 (r_isRegister _ _ _) w_X6_116 rfl ⟨by decide, by decide⟩ (by decide) (by decide) rfl (Nat.le_of_ble_eq_true rfl) (fun x223 I223 J223 q223 => ?_)
          obtain ⟨rfl, rfl, rfl⟩ := rvq q223
          refine pw_if_eq (tgt := 233) dX6_mayBe_226 (by decide) (fun h226 => ?_) (fun h226 => ?_)
          · refine pw_iconst (v := 0) dX6_mayBe_233 (by decide) ?_
            refine pw_iret dX6_mayBe_234 rfl (by first | rfl | exact nb_if) (by decide) (by decide) ?_
            refine ⟨_, rfl, rfl, rfl, ?_, rfl, rfl⟩
            first
              | (subst s1; exact mb_one (by simp (decide := true) only [mbP]; simp only [isIn, if1_eq] at *; grind))
              | (subst s1; exact mb_zero (by simp (decide := true) only [mbP]; simp only [isIn, if1_eq] at *; grind))
              | (subst s1; exact mb_if (by simp (decide := true) only [mbP, if_true, if_false]))
              | exact mb_one (by simp only [mbP, n0, n1, n2, n3, n4, n5, n7, n8, n9, n10, n11, or_self, or_false, false_or, if_false, ite_false, reduceIte]; grind)
              | exact mb_zero (by simp only [mbP, n0, n1, n2, n3, n4, n5, n7, n8, n9, n10, n11, or_self, or_false, false_or, if_false, ite_false, reduceIte]; grind)
          · refine pw_iconst (v := 1) dX6_mayBe_229 (by decide) ?_
            refine pw_goto (tgt := 234) dX6_mayBe_230 (by decide) ?_
            refine pw_iret dX6_mayBe_234 rfl (by first | rfl | exact nb_if) (by decide) (by decide) ?_
            refine ⟨_, rfl, rfl, rfl, ?_, rfl, rfl⟩
            first
              | (subst s1; exact mb_one (by simp (decide := true) only [mbP]; simp only [isIn, if1_eq] at *; grind))
              | (subst s1; exact mb_zero (by simp (decide := true) only [mbP]; simp only [isIn, if1_eq] at *; grind))
              | (subst s1; exact mb_if (by simp (decide := true) only [mbP, if_true, if_false]))
              | exact mb_one (by simp only [mbP, n0, n1, n2, n3, n4, n5, n7, n8, n9, n10, n11, or_self, or_false, false_or, if_false, ite_false, reduceIte]; grind)
              | exact mb_zero (by simp only [mbP, n0, n1, n2, n3, n4, n5, n7, n8, n9, n10, n11, or_self, or_false, false_or, if_false, ite_false, reduceIte]; grind)
  · refine ⟨235, by decide, ?_⟩
    have n0 : ¬ k = 0 := fun e => by rw [e] at o1; revert o1; decide
    have n1 : ¬ k = 1 := fun e => by rw [e] at o1; revert o1; decide
    have n2 : ¬ k = 2 := fun e => by rw [e] at o1; revert o1; decide
    have n3 : ¬ k = 3 := fun e => by rw [e] at o1; revert o1; decide
    have n4 : ¬ k = 4 := fun e => by rw [e] at o1; revert o1; decide
    have n5 : ¬ k = 5 := fun e => by rw [e] at o1; revert o1; decide
    have n6 : ¬ k = 6 := fun e => by rw [e] at o1; revert o1; decide
    have n7 : ¬ k = 7 := fun e => by rw [e] at o1; revert o1; decide
    have n8 : ¬ k = 8 := fun e => by rw [e] at o1; revert o1; decide
    have n9 : ¬ k = 9 := fun e => by rw [e] at o1; revert o1; decide
    have n10 : ¬ k = 10 := fun e => by rw [e] at o1; revert o1; decide
    have n11 : ¬ k = 11 := fun e => by rw [e] at o1; revert o1; decide
    refine pw_iload_n dX6_mayBe_235 rfl ?_
    refine pw_bipush (v := 6) dX6_mayBe_236 (by decide) ?_
    refine pw_icmp_eq (tgt := 253) dX6_mayBe_238 (by decide) (fun h238_1 => ?_) (fun h238_1 => ?_)
    · refine pw_iconst (v := 1) dX6_mayBe_253 (by decide) ?_
      refine pw_goto (tgt := 258) dX6_mayBe_254 (by decide) ?_
      refine pw_iret dX6_mayBe_258 rfl (by first | rfl | exact nb_if) (by decide) (by decide) ?_
      refine ⟨_, rfl, rfl, rfl, ?_, rfl, rfl⟩
      first
        | (subst s1; exact mb_one (by simp (decide := true) only [mbP]; simp only [isIn, if1_eq] at *; grind))
        | (subst s1; exact mb_zero (by simp (decide := true) only [mbP]; simp only [isIn, if1_eq] at *; grind))
        | (subst s1; exact mb_if (by simp (decide := true) only [mbP, if_true, if_false]))
        | exact mb_one (by simp only [mbP, n0, n1, n2, n3, n4, n5, n7, n8, n9, n10, n11, or_self, or_false, false_or, if_false, ite_false, reduceIte]; grind)
        | exact mb_zero (by simp only [mbP, n0, n1, n2, n3, n4, n5, n7, n8, n9, n10, n11, or_self, or_false, false_or, if_false, ite_false, reduceIte]; grind)
    · refine pw_iload_n dX6_mayBe_241 rfl ?_
      refine pw_bipush (v := 12) dX6_mayBe_242 (by decide) ?_
      refine pw_icmp_eq (tgt := 253) dX6_mayBe_244 (by decide) (fun h244_1 => ?_) (fun h244_1 => ?_)
      · refine pw_iconst (v := 1) dX6_mayBe_253 (by decide) ?_
        refine pw_goto (tgt := 258) dX6_mayBe_254 (by decide) ?_
        refine pw_iret dX6_mayBe_258 rfl (by first | rfl | exact nb_if) (by decide) (by decide) ?_
        refine ⟨_, rfl, rfl, rfl, ?_, rfl, rfl⟩
        first
          | (subst s1; exact mb_one (by simp (decide := true) only [mbP]; simp only [isIn, if1_eq] at *; grind))
          | (subst s1; exact mb_zero (by simp (decide := true) only [mbP]; simp only [isIn, if1_eq] at *; grind))
          | (subst s1; exact mb_if (by simp (decide := true) only [mbP, if_true, if_false]))
          | exact mb_one (by simp only [mbP, n0, n1, n2, n3, n4, n5, n7, n8, n9, n10, n11, or_self, or_false, false_or, if_false, ite_false, reduceIte]; grind)
          | exact mb_zero (by simp only [mbP, n0, n1, n2, n3, n4, n5, n7, n8, n9, n10, n11, or_self, or_false, false_or, if_false, ite_false, reduceIte]; grind)
      · refine pw_iload_n dX6_mayBe_247 rfl ?_
        refine pw_bipush (v := 13) dX6_mayBe_248 (by decide) ?_
        refine pw_icmp_ne (tgt := 257) dX6_mayBe_250 (by decide) (fun h250_1 => ?_) (fun h250_1 => ?_)
        · refine pw_iconst (v := 0) dX6_mayBe_257 (by decide) ?_
          refine pw_iret dX6_mayBe_258 rfl (by first | rfl | exact nb_if) (by decide) (by decide) ?_
          refine ⟨_, rfl, rfl, rfl, ?_, rfl, rfl⟩
          first
            | (subst s1; exact mb_one (by simp (decide := true) only [mbP]; simp only [isIn, if1_eq] at *; grind))
            | (subst s1; exact mb_zero (by simp (decide := true) only [mbP]; simp only [isIn, if1_eq] at *; grind))
            | (subst s1; exact mb_if (by simp (decide := true) only [mbP, if_true, if_false]))
            | exact mb_one (by simp only [mbP, n0, n1, n2, n3, n4, n5, n7, n8, n9, n10, n11, or_self, or_false, false_or, if_false, ite_false, reduceIte]; grind)
            | exact mb_zero (by simp only [mbP, n0, n1, n2, n3, n4, n5, n7, n8, n9, n10, n11, or_self, or_false, false_or, if_false, ite_false, reduceIte]; grind)
        · refine pw_iconst (v := 1) dX6_mayBe_253 (by decide) ?_
          refine pw_goto (tgt := 258) dX6_mayBe_254 (by decide) ?_
          refine pw_iret dX6_mayBe_258 rfl (by first | rfl | exact nb_if) (by decide) (by decide) ?_
          refine ⟨_, rfl, rfl, rfl, ?_, rfl, rfl⟩
          first
            | (subst s1; exact mb_one (by simp (decide := true) only [mbP]; simp only [isIn, if1_eq] at *; grind))
            | (subst s1; exact mb_zero (by simp (decide := true) only [mbP]; simp only [isIn, if1_eq] at *; grind))
            | (subst s1; exact mb_if (by simp (decide := true) only [mbP, if_true, if_false]))
            | exact mb_one (by simp only [mbP, n0, n1, n2, n3, n4, n5, n7, n8, n9, n10, n11, or_self, or_false, false_or, if_false, ite_false, reduceIte]; grind)
            | exact mb_zero (by simp only [mbP, n0, n1, n2, n3, n4, n5, n7, n8, n9, n10, n11, or_self, or_false, false_or, if_false, ite_false, reduceIte]; grind)
