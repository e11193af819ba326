/-! THE REFERENCE: exhibit -/
def wzL : Nat → Nat → pI → pI
  | 0, _, I => I
  | m + 1, k, I => wzL m (k + 1) (upI I 67 k 0)
def xzB (I : pI) (p : Nat) : pI := upI (upI (upI (reI I p) 71 p 0) 72 p 0) 73 p 0
def xzL : Nat → Nat → pI → pI
  | 0, _, I => I
  | m + 1, p, I => xzL m (p + 1) (xzB I p)
def exR (I : pI) (x n : Int32) : pI := xzL 3 0 (wzL 8 0 (mdI (upI (upI (upI I 64 0 0) 64 1 x) 64 2 n)))
abbrev m_X6_exhibit : pT := (yX6_exhibit.cls, cX6_exhibit, 4, none, { frames := 4, cells := 0, slots := 0, locals := 86 }, [], none)
set_option maxRecDepth 100000 in
set_option maxHeartbeats 4000000 in
theorem l_ex2 (J : pJ) (Q : pQ) : ∀ (m p : Nat) (I : pI), p + m = 3 → Q (.inl none) 84 (xzL m p I) J pRs → PW m_X6_exhibit Q 79 [(0, .ref 64), (3, .int (nI p))] [] 84 I J pRs 0 0 := by
  intro m
  induction m with
  | zero =>
    intro p I hpm hQ
    refine pw_iload_n dX6_exhibit_79 rfl ?_
    refine pw_iconst (v := 3) dX6_exhibit_80 (by decide) ?_
    refine pw_icmp_ge (tgt := 116) dX6_exhibit_81 (by decide) (fun h81 => ?_) (fun h81 => ?_)
    · refine pw_vret dX6_exhibit_116 rfl (by decide) (by decide) ?_
      exact hQ
    · exact absurd (nI_le (a := 3) (by omega) (by omega)) h81
  | succ m ih =>
    intro p I hpm hQ
    refine pw_iload_n dX6_exhibit_79 rfl ?_
    refine pw_iconst (v := 3) dX6_exhibit_80 (by decide) ?_
    refine pw_icmp_ge (tgt := 116) dX6_exhibit_81 (by decide) (fun h81 => ?_) (fun h81 => ?_)
    · exact absurd ((nI_leI (a := 3) (b := p) (by decide) (by omega)).mp h81) (by omega)
    · refine pw_aload_n dX6_exhibit_84 rfl ?_
      refine pw_iload_n dX6_exhibit_85 rfl ?_
      refine pw_cVv (ci := 6) (y := yX6_rest) (cc := cX6_rest) (nL := 3) (ret := none) (rm := { frames := 0, cells := 0, slots := 0, locals := 0 }) dX6_exhibit_86 (r_rest _ _ (by omega)) w_X6_113 rfl (by decide) rfl ⟨by decide, by decide⟩ (by decide) (by decide) rfl (Nat.le_of_ble_eq_true rfl) (fun I86 J86 q86 => ?_)
      obtain ⟨rfl, rfl⟩ := rvv q86
      refine pw_aload_n dX6_exhibit_89 rfl ?_
      refine pw_getr dX6_exhibit_90 fl_X6_35 rfl rfl (by decide) (by decide) rfl ?_
      refine pw_iload_n dX6_exhibit_93 rfl ?_
      refine pw_iconst (v := 0) dX6_exhibit_94 (by decide) ?_
      refine pw_zast dX6_exhibit_95 rfl (by decide) (by decide) (vp_in_nI (by omega) (by decide)) rfl ?_
      rw [nI_clamp (show p < 2 ^ 31 by omega)]
      refine pw_aload_n dX6_exhibit_96 rfl ?_
      refine pw_getr dX6_exhibit_97 fl_X6_39 rfl rfl (by decide) (by decide) rfl ?_
      refine pw_iload_n dX6_exhibit_100 rfl ?_
      refine pw_iconst (v := 0) dX6_exhibit_101 (by decide) ?_
      refine pw_iast dX6_exhibit_102 rfl (by decide) (by decide) (vp_in_nI (by omega) (by decide)) ?_
      rw [nI_clamp (show p < 2 ^ 31 by omega)]
      refine pw_aload_n dX6_exhibit_103 rfl ?_
      refine pw_getr dX6_exhibit_104 fl_X6_42 rfl rfl (by decide) (by decide) rfl ?_
      refine pw_iload_n dX6_exhibit_107 rfl ?_
      refine pw_iconst (v := 0) dX6_exhibit_108 (by decide) ?_
      refine pw_iast dX6_exhibit_109 rfl (by decide) (by decide) (vp_in_nI (by omega) (by decide)) ?_
      rw [nI_clamp (show p < 2 ^ 31 by omega)]
      refine pw_iinc (v := nI (p + 1)) dX6_exhibit_110 rfl (by rw [nI_succ]; rfl) (by decide) ?_
      refine pw_goto (tgt := 79) dX6_exhibit_113 (by decide) ?_
      refine pw_loc (L' := [(0, .ref 64), (3, .int (nI (p + 1)))]) rfl ?_
      exact ih (p + 1) _ (by omega) hQ
set_option maxRecDepth 100000 in
set_option maxHeartbeats 4000000 in
theorem l_ex1 (J : pJ) (Q : pQ) : ∀ (m k : Nat) (I : pI), k + m = 8 → Q (.inl none) 84 (xzL 3 0 (wzL m k I)) J pRs → PW m_X6_exhibit Q 58 [(0, .ref 64), (3, .int (nI k))] [] 84 I J pRs 0 0 := by
  intro m
  induction m with
  | zero =>
    intro k I hkm hQ
    refine pw_iload_n dX6_exhibit_58 rfl ?_
    refine pw_bipush (v := 8) dX6_exhibit_59 (by decide) ?_
    refine pw_icmp_ge (tgt := 77) dX6_exhibit_61 (by decide) (fun h61 => ?_) (fun h61 => ?_)
    · refine pw_iconst (v := 0) dX6_exhibit_77 (by decide) ?_
      refine pw_istore_n dX6_exhibit_78 (by decide) ?_
      refine pw_loc (L' := [(0, .ref 64), (3, .int (nI 0))]) rfl ?_
      exact l_ex2 J Q 3 0 _ (by decide) hQ
    · exact absurd (nI_le (a := 8) (by omega) (by omega)) h61
  | succ m ih =>
    intro k I hkm hQ
    refine pw_iload_n dX6_exhibit_58 rfl ?_
    refine pw_bipush (v := 8) dX6_exhibit_59 (by decide) ?_
    refine pw_icmp_ge (tgt := 77) dX6_exhibit_61 (by decide) (fun h61 => ?_) (fun h61 => ?_)
    · exact absurd ((nI_leI (a := 8) (b := k) (by decide) (by omega)).mp h61) (by omega)
    · refine pw_aload_n dX6_exhibit_64 rfl ?_
      refine pw_getr dX6_exhibit_65 fl_X6_23 rfl rfl (by decide) (by decide) rfl ?_
      refine pw_iload_n dX6_exhibit_68 rfl ?_
      refine pw_iconst (v := 0) dX6_exhibit_69 (by decide) ?_
      refine pw_iast dX6_exhibit_70 rfl (by decide) (by decide) (vp_in_nI (by omega) (by decide)) ?_
      rw [nI_clamp (show k < 2 ^ 31 by omega)]
      refine pw_iinc (v := nI (k + 1)) dX6_exhibit_71 rfl (by rw [nI_succ]; rfl) (by decide) ?_
      refine pw_goto (tgt := 58) dX6_exhibit_74 (by decide) ?_
      refine pw_loc (L' := [(0, .ref 64), (3, .int (nI (k + 1)))]) rfl ?_
      exact ih (k + 1) _ (by omega) hQ
set_option maxRecDepth 100000 in
set_option maxHeartbeats 4000000 in
theorem r_exhibit (m n : Int32) (I : pI) (J : pJ) (hx : exOK m n) : pMet yX6_exhibit (pws yX6_exhibit cX6_exhibit 4 none) { frames := 4, cells := 0, slots := 0, locals := 86 } [.ref 64, .int m, .int n] 84 I J pRs (pOv (fun I' J' => I' = exR I m n ∧ J' = J)) := by
  refine pMet_of (by decide) (Nat.le_of_ble_eq_true rfl) ?_
  refine pw_aload_n dX6_exhibit_0 rfl ?_
  refine pw_iload_n dX6_exhibit_1 rfl ?_
  refine pw_iconst (v := 1) dX6_exhibit_2 (by decide) ?_
  refine pw_iconst (v := 5) dX6_exhibit_3 (by decide) ?_
  refine pw_cSi (y := yX6_in) (cc := cX6_in) (nL := 3) (ret := (some .boolean)) (rm := { frames := 0, cells := 0, slots := 0, locals := 0 }) dX6_exhibit_4 (r_in _ _ _ _ _) w_X6_102 rfl ⟨by decide, by decide⟩ (by decide) (by decide) rfl (Nat.le_of_ble_eq_true rfl) (fun x4 I4 J4 q4 => ?_)
  obtain ⟨rfl, rfl, rfl⟩ := rvq q4
  rw [in_t hx.1]
  refine pw_if_eq (tgt := 29) dX6_exhibit_7 (by decide) (fun z => absurd z (by decide)) (fun _ => ?_)
  refine pw_iload_n dX6_exhibit_10 rfl ?_
  refine pw_iconst (v := 1) dX6_exhibit_11 (by decide) ?_
  refine pw_iconst (v := 3) dX6_exhibit_12 (by decide) ?_
  refine pw_cSi (y := yX6_in) (cc := cX6_in) (nL := 3) (ret := (some .boolean)) (rm := { frames := 0, cells := 0, slots := 0, locals := 0 }) dX6_exhibit_13 (r_in _ _ _ _ _) w_X6_102 rfl ⟨by decide, by decide⟩ (by decide) (by decide) rfl (Nat.le_of_ble_eq_true rfl) (fun x13 I13 J13 q13 => ?_)
  obtain ⟨rfl, rfl, rfl⟩ := rvq q13
  rw [in_t hx.2.1]
  refine pw_if_eq (tgt := 29) dX6_exhibit_16 (by decide) (fun z => absurd z (by decide)) (fun _ => ?_)
  refine pw_iload_n dX6_exhibit_19 rfl ?_
  refine pw_iconst (v := 3) dX6_exhibit_20 (by decide) ?_
  refine pw_icmp_ne (tgt := 33) dX6_exhibit_21 (by decide) (fun h21 => ?_) (fun h21 => ?_)
  · refine pw_iconst (v := 0) dX6_exhibit_33 (by decide) ?_
    refine pw_iconst (v := 0) dX6_exhibit_34 (by decide) ?_
    refine pw_cVi (ci := 6) (y := yX6_refuse) (cc := cX6_refuse) (nL := 3) (ret := (some .boolean)) (rm := { frames := 0, cells := 0, slots := 0, locals := 0 }) dX6_exhibit_35 (r_refuse 0 0 _ _) w_X6_106 rfl (by decide) rfl ⟨by decide, by decide⟩ (by decide) (by decide) rfl (Nat.le_of_ble_eq_true rfl) (fun x35 I35 J35 q35 => ?_)
    obtain ⟨rfl, rfl, rfl⟩ := rvq q35
    refine pw_if_eq (tgt := 42) dX6_exhibit_38 (by decide) (fun _ => ?_) (fun z => absurd z (by decide))
    refine pw_aload_n dX6_exhibit_42 rfl ?_
    refine pw_iload_n dX6_exhibit_43 rfl ?_
    refine pw_puti dX6_exhibit_44 fl_X6_7 rfl rfl rfl rfl rfl (by decide) (by decide) ?_
    refine pw_aload_n dX6_exhibit_47 rfl ?_
    refine pw_iload_n dX6_exhibit_48 rfl ?_
    refine pw_puti dX6_exhibit_49 fl_X6_13 rfl rfl rfl rfl rfl (by decide) (by decide) ?_
    refine pw_aload_n dX6_exhibit_52 rfl ?_
    refine pw_cVv (ci := 6) (y := yX6_mend) (cc := cX6_mend) (nL := 2) (ret := none) (rm := { frames := 3, cells := 0, slots := 0, locals := 65 }) dX6_exhibit_53 (r_mend _ _) w_X6_110 rfl (by decide) rfl ⟨by decide, by decide⟩ (by decide) (by decide) rfl (Nat.le_of_ble_eq_true rfl) (fun I53 J53 q53 => ?_)
    obtain ⟨rfl, rfl⟩ := rvv q53
    refine pw_iconst (v := 0) dX6_exhibit_56 (by decide) ?_
    refine pw_istore_n dX6_exhibit_57 (by decide) ?_
    refine pw_loc (L' := [(0, .ref 64), (3, .int (nI 0))]) rfl ?_
    exact l_ex1 J _ 8 0 _ (by decide) ⟨rfl, rfl, rfl, by rw [exR, t00], rfl⟩
  · refine pw_iload_n dX6_exhibit_24 rfl ?_
    refine pw_iconst (v := 2) dX6_exhibit_25 (by decide) ?_
    refine pw_icmp_eq (tgt := 33) dX6_exhibit_26 (by decide) (fun _ => ?_) (fun z => absurd (hx.2.2 h21) z)
    refine pw_iconst (v := 0) dX6_exhibit_33 (by decide) ?_
    refine pw_iconst (v := 0) dX6_exhibit_34 (by decide) ?_
    refine pw_cVi (ci := 6) (y := yX6_refuse) (cc := cX6_refuse) (nL := 3) (ret := (some .boolean)) (rm := { frames := 0, cells := 0, slots := 0, locals := 0 }) dX6_exhibit_35 (r_refuse 0 0 _ _) w_X6_106 rfl (by decide) rfl ⟨by decide, by decide⟩ (by decide) (by decide) rfl (Nat.le_of_ble_eq_true rfl) (fun x35_1 I35_1 J35_1 q35_1 => ?_)
    obtain ⟨rfl, rfl, rfl⟩ := rvq q35_1
    refine pw_if_eq (tgt := 42) dX6_exhibit_38 (by decide) (fun _ => ?_) (fun z => absurd z (by decide))
    refine pw_aload_n dX6_exhibit_42 rfl ?_
    refine pw_iload_n dX6_exhibit_43 rfl ?_
    refine pw_puti dX6_exhibit_44 fl_X6_7 rfl rfl rfl rfl rfl (by decide) (by decide) ?_
    refine pw_aload_n dX6_exhibit_47 rfl ?_
    refine pw_iload_n dX6_exhibit_48 rfl ?_
    refine pw_puti dX6_exhibit_49 fl_X6_13 rfl rfl rfl rfl rfl (by decide) (by decide) ?_
    refine pw_aload_n dX6_exhibit_52 rfl ?_
    refine pw_cVv (ci := 6) (y := yX6_mend) (cc := cX6_mend) (nL := 2) (ret := none) (rm := { frames := 3, cells := 0, slots := 0, locals := 65 }) dX6_exhibit_53 (r_mend _ _) w_X6_110 rfl (by decide) rfl ⟨by decide, by decide⟩ (by decide) (by decide) rfl (Nat.le_of_ble_eq_true rfl) (fun I53_1 J53_1 q53_1 => ?_)
    obtain ⟨rfl, rfl⟩ := rvv q53_1
    refine pw_iconst (v := 0) dX6_exhibit_56 (by decide) ?_
    refine pw_istore_n dX6_exhibit_57 (by decide) ?_
    refine pw_loc (L' := [(0, .ref 64), (3, .int (nI 0))]) rfl ?_
    exact l_ex1 J _ 8 0 _ (by decide) ⟨rfl, rfl, rfl, by rw [exR, t00], rfl⟩
set_option maxRecDepth 100000 in
set_option maxHeartbeats 4000000 in
theorem r_exhibit_x (m n : Int32) (I : pI) (J : pJ) (hx : ¬ exOK m n) : pMet yX6_exhibit (pws yX6_exhibit cX6_exhibit 4 none) { frames := 4, cells := 0, slots := 0, locals := 86 } [.ref 64, .int m, .int n] 84 I J pRs (pOv (fun I' J' => I' = upI I 64 0 1 ∧ J' = J)) := by
  refine pMet_of (by decide) (Nat.le_of_ble_eq_true rfl) ?_
  refine pw_aload_n dX6_exhibit_0 rfl ?_
  refine pw_iload_n dX6_exhibit_1 rfl ?_
  refine pw_iconst (v := 1) dX6_exhibit_2 (by decide) ?_
  refine pw_iconst (v := 5) dX6_exhibit_3 (by decide) ?_
  refine pw_cSi (y := yX6_in) (cc := cX6_in) (nL := 3) (ret := (some .boolean)) (rm := { frames := 0, cells := 0, slots := 0, locals := 0 }) dX6_exhibit_4 (r_in _ _ _ _ _) w_X6_102 rfl ⟨by decide, by decide⟩ (by decide) (by decide) rfl (Nat.le_of_ble_eq_true rfl) (fun x4 I4 J4 q4 => ?_)
  obtain ⟨rfl, rfl, rfl⟩ := rvq q4
  refine pw_if_eq (tgt := 29) dX6_exhibit_7 (by decide) (fun h7 => ?_) (fun h7 => ?_)
  · refine pw_iconst (v := 1) dX6_exhibit_29 (by decide) ?_
    refine pw_goto (tgt := 34) dX6_exhibit_30 (by decide) ?_
    refine pw_iconst (v := 0) dX6_exhibit_34 (by decide) ?_
    refine pw_cVi (ci := 6) (y := yX6_refuse) (cc := cX6_refuse) (nL := 3) (ret := (some .boolean)) (rm := { frames := 0, cells := 0, slots := 0, locals := 0 }) dX6_exhibit_35 (r_refuse 1 0 _ _) w_X6_106 rfl (by decide) rfl ⟨by decide, by decide⟩ (by decide) (by decide) rfl (Nat.le_of_ble_eq_true rfl) (fun x35 I35 J35 q35 => ?_)
    obtain ⟨rfl, rfl, rfl⟩ := rvq q35
    refine pw_if_eq (tgt := 42) dX6_exhibit_38 (by decide) (fun z => absurd z (by decide)) (fun _ => ?_)
    refine pw_vret dX6_exhibit_41 rfl (by decide) (by decide) ?_
    exact ⟨rfl, rfl, rfl, by rw [t10], rfl⟩
  · refine pw_iload_n dX6_exhibit_10 rfl ?_
    refine pw_iconst (v := 1) dX6_exhibit_11 (by decide) ?_
    refine pw_iconst (v := 3) dX6_exhibit_12 (by decide) ?_
    refine pw_cSi (y := yX6_in) (cc := cX6_in) (nL := 3) (ret := (some .boolean)) (rm := { frames := 0, cells := 0, slots := 0, locals := 0 }) dX6_exhibit_13 (r_in _ _ _ _ _) w_X6_102 rfl ⟨by decide, by decide⟩ (by decide) (by decide) rfl (Nat.le_of_ble_eq_true rfl) (fun x13 I13 J13 q13 => ?_)
    obtain ⟨rfl, rfl, rfl⟩ := rvq q13
    refine pw_if_eq (tgt := 29) dX6_exhibit_16 (by decide) (fun h16 => ?_) (fun h16 => ?_)
    · refine pw_iconst (v := 1) dX6_exhibit_29 (by decide) ?_
      refine pw_goto (tgt := 34) dX6_exhibit_30 (by decide) ?_
      refine pw_iconst (v := 0) dX6_exhibit_34 (by decide) ?_
      refine pw_cVi (ci := 6) (y := yX6_refuse) (cc := cX6_refuse) (nL := 3) (ret := (some .boolean)) (rm := { frames := 0, cells := 0, slots := 0, locals := 0 }) dX6_exhibit_35 (r_refuse 1 0 _ _) w_X6_106 rfl (by decide) rfl ⟨by decide, by decide⟩ (by decide) (by decide) rfl (Nat.le_of_ble_eq_true rfl) (fun x35_1 I35_1 J35_1 q35_1 => ?_)
      obtain ⟨rfl, rfl, rfl⟩ := rvq q35_1
      refine pw_if_eq (tgt := 42) dX6_exhibit_38 (by decide) (fun z => absurd z (by decide)) (fun _ => ?_)
      refine pw_vret dX6_exhibit_41 rfl (by decide) (by decide) ?_
      exact ⟨rfl, rfl, rfl, by rw [t10], rfl⟩
    · refine pw_iload_n dX6_exhibit_19 rfl ?_
      refine pw_iconst (v := 3) dX6_exhibit_20 (by decide) ?_
      refine pw_icmp_ne (tgt := 33) dX6_exhibit_21 (by decide) (fun h21 => ?_) (fun h21 => ?_)
      · exact absurd ⟨of_if1 h7, of_if1 h16, fun z => absurd z h21⟩ hx
      · refine pw_iload_n dX6_exhibit_24 rfl ?_
        refine pw_iconst (v := 2) dX6_exhibit_25 (by decide) ?_
        refine pw_icmp_eq (tgt := 33) dX6_exhibit_26 (by decide) (fun h26 => ?_) (fun h26 => ?_)
        · exact absurd ⟨of_if1 h7, of_if1 h16, fun _ => h26⟩ hx
        · refine pw_iconst (v := 1) dX6_exhibit_29 (by decide) ?_
          refine pw_goto (tgt := 34) dX6_exhibit_30 (by decide) ?_
          refine pw_iconst (v := 0) dX6_exhibit_34 (by decide) ?_
          refine pw_cVi (ci := 6) (y := yX6_refuse) (cc := cX6_refuse) (nL := 3) (ret := (some .boolean)) (rm := { frames := 0, cells := 0, slots := 0, locals := 0 }) dX6_exhibit_35 (r_refuse 1 0 _ _) w_X6_106 rfl (by decide) rfl ⟨by decide, by decide⟩ (by decide) (by decide) rfl (Nat.le_of_ble_eq_true rfl) (fun x35_2 I35_2 J35_2 q35_2 => ?_)
          obtain ⟨rfl, rfl, rfl⟩ := rvq q35_2
          refine pw_if_eq (tgt := 42) dX6_exhibit_38 (by decide) (fun z => absurd z (by decide)) (fun _ => ?_)
          refine pw_vret dX6_exhibit_41 rfl (by decide) (by decide) ?_
          exact ⟨rfl, rfl, rfl, by rw [t10], rfl⟩
