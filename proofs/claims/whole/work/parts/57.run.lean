/-! run, on both sides -/
def rnU (s : Int32) : Nat := s.toBitVec.toNat / 65536
def rnS (s : Int32) : Int32 := s * 1103515245 + 12345
theorem rnU_lt (s : Int32) : rnU s < 65536 := by
  have := s.toBitVec.isLt
  unfold rnU; omega
theorem ush16 (s : Int32) : (s.toUInt32 >>> ((16 : Int32).toUInt32 &&& Int32.toUInt32 31)).toInt32 = nI (rnU s) := by
  apply Int32.toBitVec_inj.mp
  apply BitVec.eq_of_toNat_eq
  rw [pk_ushr s 16 16 (by decide), pk_tn (by have := rnU_lt s; omega)]
  rfl
def rnC (c : Nat) : Nat → Int32 → Int32 → pI → Int32 × pI
  | 0, _, e, I => (e, I)
  | m + 1, s, e, I => rnC c m (rnS s) (if mvA I 43 (rnU (rnS s) % c) c (45 + rnU (rnS s) % c) 0 = 2 then e + 1 else e) (mvA I 43 (rnU (rnS s) % c) c)
def rnR (c : Nat) : Nat → Int32 → Int32 → pI → Int32 × pI
  | 0, _, e, K => (e, K)
  | m + 1, s, e, K => rnR c m (rnS s) (if K 68 (rnU (rnS s) % c) = 4 then e else if moI K (rnU (rnS s) % c) 0 c 68 (rnU (rnS s) % c) = 2 then e + 1 else e) (moI K (rnU (rnS s) % c) 0 c)
theorem HB0 : HB 43 0 0 := Or.inl ⟨rfl, rfl, rfl⟩
theorem HB8 : HB 50 8 3 := Or.inr ⟨rfl, rfl, rfl⟩
theorem sim_run {c : Nat} (hc1 : 1 ≤ c) (hc : c ≤ 3) : ∀ (m : Nat) (s e : Int32) (I K : pI), HRel I K 43 0 0 c → (rnC c m s e I).1 = (rnR c m s e K).1 ∧ HRel (rnC c m s e I).2 (rnR c m s e K).2 43 0 0 c := by
  intro m
  induction m with
  | zero => intro s e I K h; exact ⟨rfl, h⟩
  | succ m ih =>
    intro s e I K h
    have hp : rnU (rnS s) % c < 3 := Nat.lt_of_lt_of_le (Nat.mod_lt _ hc1) hc
    have h1 := sim_move (p := rnU (rnS s) % c) h HB0 hp hc
    rw [Nat.zero_add] at h1
    have e1 : (if mvA I 43 (rnU (rnS s) % c) c (45 + rnU (rnS s) % c) 0 = 2 then e + 1 else e) = (if K 68 (rnU (rnS s) % c) = 4 then e else if moI K (rnU (rnS s) % c) 0 c 68 (rnU (rnS s) % c) = 2 then e + 1 else e) := by
      obtain ⟨w, q, a1, a2, a3, a4, -⟩ := h1.1 _ hp
      rw [Nat.zero_add] at a4
      have a3' : mvA I 43 (rnU (rnS s) % c) c (45 + rnU (rnS s) % c) 0 = nI w := a3
      by_cases h4 : K 68 (rnU (rnS s) % c) = 4
      · rw [if_pos h4, a3']
        have e4 : moI K (rnU (rnS s) % c) 0 c 68 (rnU (rnS s) % c) = 4 := by rw [moI, if_pos h4]; exact h4
        rw [a4] at e4
        rw [e4, if_neg (by decide)]
      · rw [if_neg h4, a3', a4]
    rw [rnC, rnR, e1]
    exact ih _ _ _ _ h1
abbrev m_X5_run : pT := (yX5_run.cls, cX5_run, 7, (some .int), { frames := 6, cells := 1, slots := 6, locals := 98 }, [], none)
set_option maxRecDepth 100000 in
set_option maxHeartbeats 4000000 in
theorem l_run {c t : Nat} (hc1 : 1 ≤ c) (hc : c ≤ 3) (ht : t ≤ 2000) (J : pJ) (Q : pQ) : ∀ (m i : Nat) (s e : Int32) (I K : pI), i + m = t → HRel I K 43 0 0 c → Q (.inl (some (.int (rnC c m s e I).1))) 84 (rnC c m s e I).2 J pRs → PW m_X5_run Q 29 [(0, .ref 0), (2, .int (nI t)), (3, .int e), (4, .int s), (5, .int (nI i))] [] 84 I J pRs 0 0 := by
  intro m
  induction m with
  | zero =>
    intro i s e I K him h hQ
    refine pw_iload dX5_run_29 rfl ?_
    refine pw_iload_n dX5_run_31 rfl ?_
    refine pw_icmp_ge (tgt := 110) dX5_run_32 (by decide) (fun h32 => ?_) (fun h32 => ?_)
    · refine pw_iload_n dX5_run_110 rfl ?_
      refine pw_iret dX5_run_111 rfl rfl (by decide) (by decide) ?_
      exact hQ
    · exact absurd (nI_le (by omega) (by omega)) h32
  | succ m ih =>
    intro i s e I K him h hQ
    have hI := h.2.2.2.1
    refine pw_iload dX5_run_29 rfl ?_
    refine pw_iload_n dX5_run_31 rfl ?_
    refine pw_icmp_ge (tgt := 110) dX5_run_32 (by decide) (fun h32 => ?_) (fun h32 => ?_)
    · exact absurd ((nI_leI (a := t) (b := i) (by omega) (by omega)).mp h32) (by omega)
    · refine pw_aload_n dX5_run_35 rfl ?_
      refine pw_getr dX5_run_36 fl_X5_19 rfl rfl (by decide) (by decide) rfl ?_
      refine pw_geti dX5_run_39 fl_X5_89 rfl rfl (by decide) (by decide) ?_
      refine pw_if_le (tgt := 110) dX5_run_42 (by decide) (fun h42 => ?_) (fun h42 => ?_)
      · exact absurd ((nI_leI (a := c) (b := 0) (by omega) (by omega)).mp (show nI c ≤ nI 0 from hI ▸ h42)) (by omega)
      · refine pw_iload dX5_run_45 rfl ?_
        refine pw_ldc (v := (1103515245)) dX5_run_47 k_X5_137 ?_
        refine pw_imul dX5_run_49 ?_
        refine pw_sipush (v := 12345) dX5_run_50 (by decide) ?_
        refine pw_iadd dX5_run_53 ?_
        rw [show s * 1103515245 + 12345 = rnS s from rfl]
        refine pw_istore dX5_run_54 (by decide) ?_
        refine pw_iload dX5_run_56 rfl ?_
        refine pw_bipush (v := 16) dX5_run_58 (by decide) ?_
        refine pw_iushr dX5_run_60 ?_
        refine pw_aload_n dX5_run_61 rfl ?_
        refine pw_getr dX5_run_62 fl_X5_19 rfl rfl (by decide) (by decide) rfl ?_
        refine pw_geti dX5_run_65 fl_X5_89 rfl rfl (by decide) (by decide) ?_
        rw [ush16, hI]
        refine pw_irem dX5_run_68 (nI_ne0 (by omega) (by omega)) ?_
        rw [pk_rem (by have := rnU_lt (rnS s); omega) (by omega) (by omega)]
        have hp : rnU (rnS s) % c < 3 := Nat.lt_of_lt_of_le (Nat.mod_lt _ hc1) hc
        have h1 := sim_move (p := rnU (rnS s) % c) h HB0 hp hc
        obtain ⟨w0, q0, -, hq0, -, -, hpl0, -⟩ := h.1 _ hp
        refine pw_istore dX5_run_69 (by decide) ?_
        refine pw_aload_n dX5_run_71 rfl ?_
        refine pw_getr dX5_run_72 fl_X5_19 rfl rfl (by decide) (by decide) rfl ?_
        refine pw_iload dX5_run_75 rfl ?_
        refine pw_aload_n dX5_run_77 rfl ?_
        refine pw_getr dX5_run_78 fl_X5_10 rfl rfl (by decide) (by decide) rfl ?_
        refine pw_cVv (ci := 1) (y := yX1_makeMove) (cc := cX1_makeMove) (nL := 4) (ret := none) (rm := { frames := 3, cells := 0, slots := 0, locals := 75 }) dX5_run_81 (c_makeMove _ _ (Or.inl rfl) hp hc h.2.2.1.PV ⟨q0, hq0, hpl0⟩ hI) w_X5_138 rfl (by decide) rfl ⟨by decide, by decide⟩ (by decide) (by decide) rfl (Nat.le_of_ble_eq_true rfl) (fun I81 J81 q81 => ?_)
        obtain ⟨rfl, rfl⟩ := rvv q81
        refine pw_aload_n dX5_run_84 rfl ?_
        refine pw_getr dX5_run_85 fl_X5_19 rfl rfl (by decide) (by decide) rfl ?_
        refine pw_getr dX5_run_88 fl_X5_141 rfl rfl (by decide) (by decide) rfl ?_
        refine pw_iload dX5_run_91 rfl ?_
        refine pw_aaldC (x := 45 + rnU (rnS s) % c) dX5_run_93 rfl (by decide) (by decide) (vp_in_nI (by omega) (by decide)) (by rw [nI_clamp (by omega)]; rfl) ?_
        refine pw_geti dX5_run_94 fl_X5_79 rfl (pS_con hp) (by omega) (by decide) ?_
        refine pw_iconst (v := 2) dX5_run_97 (by decide) ?_
        refine pw_icmp_ne (tgt := 104) dX5_run_98 (by decide) (fun h98 => ?_) (fun h98 => ?_)
        · refine pw_iinc (v := nI (i + 1)) dX5_run_104 rfl (by rw [nI_succ]; rfl) (by decide) ?_
          refine pw_goto (tgt := 29) dX5_run_107 (by decide) ?_
          refine pw_loc (L' := [(0, .ref 0), (2, .int (nI t)), (3, .int e), (4, .int (rnS s)), (5, .int (nI (i + 1)))]) rfl ?_
          exact ih (i + 1) _ _ _ _ (by omega) h1 (by rw [rnC, if_neg h98] at hQ; exact hQ)
        · refine pw_iinc (v := e + 1) dX5_run_101 rfl rfl (by decide) ?_
          refine pw_iinc (v := nI (i + 1)) dX5_run_104 rfl (by rw [nI_succ]; rfl) (by decide) ?_
          refine pw_goto (tgt := 29) dX5_run_107 (by decide) ?_
          refine pw_loc (L' := [(0, .ref 0), (2, .int (nI t)), (3, .int (e + 1)), (4, .int (rnS s)), (5, .int (nI (i + 1)))]) rfl ?_
          exact ih (i + 1) _ _ _ _ (by omega) h1 (by rw [rnC, if_pos h98] at hQ; exact hQ)
set_option maxRecDepth 100000 in
set_option maxHeartbeats 4000000 in
theorem c_run {c t : Nat} (s : Int32) (K : pI) (I : pI) (J : pJ) (hc1 : 1 ≤ c) (hc : c ≤ 3) (ht : t ≤ 2000) (h : HRel I K 43 0 0 c) : pMet yX5_run (pws yX5_run cX5_run 7 (some .int)) { frames := 6, cells := 1, slots := 6, locals := 98 } [.ref 0, .int s, .int (nI t)] 84 I J pRs (pOi (fun r I' J' => r = (rnC c t s 0 I).1 ∧ I' = (rnC c t s 0 I).2 ∧ J' = J)) := by
  refine pMet_of (by decide) (Nat.le_of_ble_eq_true rfl) ?_
  refine pw_iload_n dX5_run_0 rfl ?_
  refine pw_if_lt (tgt := 11) dX5_run_1 (by decide) (fun h1 => ?_) (fun h1 => ?_)
  · exact absurd h1 (nI_pos (by omega))
  · refine pw_iload_n dX5_run_4 rfl ?_
    refine pw_sipush (v := 2000) dX5_run_5 (by decide) ?_
    refine pw_icmp_le (tgt := 21) dX5_run_8 (by decide) (fun h8 => ?_) (fun h8 => ?_)
    · refine pw_iconst (v := 0) dX5_run_21 (by decide) ?_
      refine pw_istore_n dX5_run_22 (by decide) ?_
      refine pw_iload_n dX5_run_23 rfl ?_
      refine pw_istore dX5_run_24 (by decide) ?_
      refine pw_iconst (v := 0) dX5_run_26 (by decide) ?_
      refine pw_istore dX5_run_27 (by decide) ?_
      refine pw_loc (L' := [(0, .ref 0), (2, .int (nI t)), (3, .int 0), (4, .int s), (5, .int (nI 0))]) rfl ?_
      exact l_run hc1 hc ht J _ t 0 s 0 I K (by omega) h ⟨_, rfl, rfl, rfl, rfl, rfl, rfl⟩
    · exact absurd (nI_le (b := 2000) ht (by decide)) h8
set_option maxRecDepth 100000 in
set_option maxHeartbeats 4000000 in
theorem c_run_x (s x : Int32) (I : pI) (J : pJ) (hx : ¬ (0 ≤ x ∧ x ≤ 2000)) : pMet yX5_run (pws yX5_run cX5_run 7 (some .int)) { frames := 6, cells := 1, slots := 6, locals := 98 } [.ref 0, .int s, .int x] 84 I J pRs (pOx eA (fun I' J' => I' = I ∧ J' = J)) := by
  refine pMet_of (by decide) (Nat.le_of_ble_eq_true rfl) ?_
  refine pw_iload_n dX5_run_0 rfl ?_
  refine pw_if_lt (tgt := 11) dX5_run_1 (by decide) (fun h1 => ?_) (fun h1 => ?_)
  · refine pw_throw (k := 0) (E := "java/lang/IllegalArgumentException") (tx := tx_135) rfl wt_135 rfl rfl dX5_run_11 dX5_run_14 dX5_run_15 dX5_run_17 dX5_run_20 (by decide) (by decide) (by decide) (by decide) ?_
    exact ⟨rfl, rfl, rfl, rfl, rfl⟩
  · refine pw_iload_n dX5_run_4 rfl ?_
    refine pw_sipush (v := 2000) dX5_run_5 (by decide) ?_
    refine pw_icmp_le (tgt := 21) dX5_run_8 (by decide) (fun h8 => ?_) (fun h8 => ?_)
    · exact absurd ⟨Int32.not_lt.mp h1, h8⟩ hx
    · refine pw_throw (k := 0) (E := "java/lang/IllegalArgumentException") (tx := tx_135) rfl wt_135 rfl rfl dX5_run_11 dX5_run_14 dX5_run_15 dX5_run_17 dX5_run_20 (by decide) (by decide) (by decide) (by decide) ?_
      exact ⟨rfl, rfl, rfl, rfl, rfl⟩
abbrev m_X6_run : pT := (yX6_run.cls, cX6_run, 7, (some .int), { frames := 3, cells := 0, slots := 0, locals := 76 }, [], none)
theorem of_if0 {p : Prop} [Decidable p] (h : (if p then (0 : Int32) else 1) = 0) : p := by
  by_cases hp : p
  · exact hp
  · rw [if_neg hp] at h; exact absurd h (by decide)
theorem of_if0n {p : Prop} [Decidable p] (h : ¬ (if p then (0 : Int32) else 1) = 0) : ¬ p := fun hp => h (if_pos hp)
set_option maxRecDepth 100000 in
set_option maxHeartbeats 4000000 in
theorem lr_run {c t : Nat} (hc1 : 1 ≤ c) (hc : c ≤ 3) (ht : t ≤ 2000) (J : pJ) (Q : pQ) : ∀ (m i : Nat) (s e : Int32) (C I : pI), i + m = t → HRel C I 43 0 0 c → Q (.inl (some (.int (rnR c m s e I).1))) 84 (rnR c m s e I).2 J pRs → PW m_X6_run Q 34 [(0, .ref 64), (2, .int (nI t)), (3, .int s), (4, .int e), (5, .int (nI i))] [] 84 I J pRs 0 0 := by
  intro m
  induction m with
  | zero =>
    intro i s e C I him h hQ
    refine pw_iload dX6_run_34 rfl ?_
    refine pw_iload_n dX6_run_36 rfl ?_
    refine pw_icmp_ge (tgt := 98) dX6_run_37 (by decide) (fun h37 => ?_) (fun h37 => ?_)
    · refine pw_iload dX6_run_98 rfl ?_
      refine pw_iret dX6_run_100 rfl rfl (by decide) (by decide) ?_
      exact hQ
    · exact absurd (nI_le (by omega) (by omega)) h37
  | succ m ih =>
    intro i s e C I him h hQ
    have hI := h.2.2.2.2.1
    refine pw_iload dX6_run_34 rfl ?_
    refine pw_iload_n dX6_run_36 rfl ?_
    refine pw_icmp_ge (tgt := 98) dX6_run_37 (by decide) (fun h37 => ?_) (fun h37 => ?_)
    · exact absurd ((nI_leI (a := t) (b := i) (by omega) (by omega)).mp h37) (by omega)
    · refine pw_iload_n dX6_run_40 rfl ?_
      refine pw_ldc (v := (1103515245)) dX6_run_41 k_X6_146 ?_
      refine pw_imul dX6_run_43 ?_
      refine pw_sipush (v := 12345) dX6_run_44 (by decide) ?_
      refine pw_iadd dX6_run_47 ?_
      rw [show s * 1103515245 + 12345 = rnS s from rfl]
      refine pw_istore_n dX6_run_48 (by decide) ?_
      refine pw_iload_n dX6_run_49 rfl ?_
      refine pw_bipush (v := 16) dX6_run_50 (by decide) ?_
      refine pw_iushr dX6_run_52 ?_
      refine pw_aload_n dX6_run_53 rfl ?_
      refine pw_geti dX6_run_54 fl_X6_13 rfl rfl (by decide) (by decide) ?_
      rw [ush16, hI]
      refine pw_irem dX6_run_57 (nI_ne0 (by omega) (by omega)) ?_
      rw [pk_rem (by have := rnU_lt (rnS s); omega) (by omega) (by omega)]
      have hp : rnU (rnS s) % c < 3 := Nat.lt_of_lt_of_le (Nat.mod_lt _ hc1) hc
      have h1 := sim_move (p := rnU (rnS s) % c) h HB0 hp hc
      rw [Nat.zero_add] at h1
      have hpr := h.1 _ hp
      rw [Nat.zero_add] at hpr
      obtain ⟨w0, q0, -, hq0, -, -, -, hpl0, -⟩ := id hpr
      refine pw_istore dX6_run_58 (by decide) ?_
      refine pw_aload_n dX6_run_60 rfl ?_
      refine pw_iload dX6_run_61 rfl ?_
      refine pw_iconst (v := 0) dX6_run_63 (by decide) ?_
      refine pw_cVi (ci := 6) (y := yX6_move) (cc := cX6_move) (nL := 3) (ret := (some .boolean)) (rm := { frames := 2, cells := 0, slots := 0, locals := 54 }) dX6_run_64 (r_move (b := 0) _ _ (Or.inl rfl) (Or.inl rfl) (by omega) hc h.2.2.1.PR ⟨q0, hq0, hpl0⟩ hpr.RG hI) w_X6_147 rfl (by decide) rfl ⟨by decide, by decide⟩ (by decide) (by decide) rfl (Nat.le_of_ble_eq_true rfl) (fun x64 I64 J64 q64 => ?_)
      obtain ⟨rfl, rfl, rfl⟩ := rvq q64
      refine pw_if_eq (tgt := 88) dX6_run_67 (by decide) (fun h67 => ?_) (fun h67 => ?_)
      · refine pw_iload dX6_run_88 rfl ?_
        refine pw_istore dX6_run_90 (by decide) ?_
        refine pw_iinc (v := nI (i + 1)) dX6_run_92 rfl (by rw [nI_succ]; rfl) (by decide) ?_
        refine pw_goto (tgt := 34) dX6_run_95 (by decide) ?_
        refine pw_loc (L' := [(0, .ref 64), (2, .int (nI t)), (3, .int (rnS s)), (4, .int e), (5, .int (nI (i + 1)))]) rfl ?_
        exact ih (i + 1) _ _ _ _ (by omega) h1 (by rw [rnR, if_pos (of_if0 h67)] at hQ; exact hQ)
      · refine pw_aload_n dX6_run_70 rfl ?_
        refine pw_getr dX6_run_71 fl_X6_26 rfl rfl (by decide) (by decide) rfl ?_
        refine pw_iload dX6_run_74 rfl ?_
        refine pw_iald dX6_run_76 rfl (by decide) (by decide) (vp_in_nI (by omega) (by decide)) ?_
        rw [nI_clamp (show rnU (rnS s) % c < 2 ^ 31 by omega)]
        refine pw_iconst (v := 2) dX6_run_77 (by decide) ?_
        refine pw_icmp_ne (tgt := 88) dX6_run_78 (by decide) (fun h78 => ?_) (fun h78 => ?_)
        · refine pw_iload dX6_run_88 rfl ?_
          refine pw_istore dX6_run_90 (by decide) ?_
          refine pw_iinc (v := nI (i + 1)) dX6_run_92 rfl (by rw [nI_succ]; rfl) (by decide) ?_
          refine pw_goto (tgt := 34) dX6_run_95 (by decide) ?_
          refine pw_loc (L' := [(0, .ref 64), (2, .int (nI t)), (3, .int (rnS s)), (4, .int e), (5, .int (nI (i + 1)))]) rfl ?_
          exact ih (i + 1) _ _ _ _ (by omega) h1 (by rw [rnR, if_neg (of_if0n h67), if_neg h78] at hQ; exact hQ)
        · refine pw_iload dX6_run_81 rfl ?_
          refine pw_iconst (v := 1) dX6_run_83 (by decide) ?_
          refine pw_iadd dX6_run_84 ?_
          refine pw_goto (tgt := 90) dX6_run_85 (by decide) ?_
          refine pw_istore dX6_run_90 (by decide) ?_
          refine pw_iinc (v := nI (i + 1)) dX6_run_92 rfl (by rw [nI_succ]; rfl) (by decide) ?_
          refine pw_goto (tgt := 34) dX6_run_95 (by decide) ?_
          refine pw_loc (L' := [(0, .ref 64), (2, .int (nI t)), (3, .int (rnS s)), (4, .int (e + 1)), (5, .int (nI (i + 1)))]) rfl ?_
          exact ih (i + 1) _ _ _ _ (by omega) h1 (by rw [rnR, if_neg (of_if0n h67), if_pos h78] at hQ; exact hQ)
set_option maxRecDepth 100000 in
set_option maxHeartbeats 4000000 in
theorem r_run {c t : Nat} (s : Int32) (C : pI) (I : pI) (J : pJ) (hc1 : 1 ≤ c) (hc : c ≤ 3) (ht : t ≤ 2000) (h : HRel C (upI I 64 0 0) 43 0 0 c) : pMet yX6_run (pws yX6_run cX6_run 7 (some .int)) { frames := 3, cells := 0, slots := 0, locals := 76 } [.ref 64, .int s, .int (nI t)] 84 I J pRs (pOi (fun r I' J' => r = (rnR c t s 0 (upI I 64 0 0)).1 ∧ I' = (rnR c t s 0 (upI I 64 0 0)).2 ∧ J' = J)) := by
  refine pMet_of (by decide) (Nat.le_of_ble_eq_true rfl) ?_
  refine pw_aload_n dX6_run_0 rfl ?_
  refine pw_iload_n dX6_run_1 rfl ?_
  refine pw_iconst (v := 0) dX6_run_2 (by decide) ?_
  refine pw_sipush (v := 2000) dX6_run_3 (by decide) ?_
  refine pw_cSi (y := yX6_in) (cc := cX6_in) (nL := 3) (ret := (some .boolean)) (rm := { frames := 0, cells := 0, slots := 0, locals := 0 }) dX6_run_6 (r_in _ _ _ _ _) w_X6_102 rfl ⟨by decide, by decide⟩ (by decide) (by decide) rfl (Nat.le_of_ble_eq_true rfl) (fun x6 I6 J6 q6 => ?_)
  obtain ⟨rfl, rfl, rfl⟩ := rvq q6
  rw [show isIn (nI t) 0 2000 = 1 from in_t ⟨nI_le (a := 0) (by omega) (by omega), nI_le (b := 2000) ht (by decide)⟩]
  refine pw_if_ne (tgt := 16) dX6_run_9 (by decide) (fun _ => ?_) (fun z => absurd z (by decide))
  refine pw_iconst (v := 0) dX6_run_16 (by decide) ?_
  refine pw_iconst (v := 0) dX6_run_17 (by decide) ?_
  refine pw_cVi (ci := 6) (y := yX6_refuse) (cc := cX6_refuse) (nL := 3) (ret := (some .boolean)) (rm := { frames := 0, cells := 0, slots := 0, locals := 0 }) dX6_run_18 (r_refuse 0 0 _ _) w_X6_106 rfl (by decide) rfl ⟨by decide, by decide⟩ (by decide) (by decide) rfl (Nat.le_of_ble_eq_true rfl) (fun x18 I18 J18 q18 => ?_)
  obtain ⟨rfl, rfl, rfl⟩ := rvq q18
  refine pw_if_eq (tgt := 26) dX6_run_21 (by decide) (fun _ => ?_) (fun z => absurd z (by decide))
  refine pw_iload_n dX6_run_26 rfl ?_
  refine pw_istore_n dX6_run_27 (by decide) ?_
  refine pw_iconst (v := 0) dX6_run_28 (by decide) ?_
  refine pw_istore dX6_run_29 (by decide) ?_
  refine pw_iconst (v := 0) dX6_run_31 (by decide) ?_
  refine pw_istore dX6_run_32 (by decide) ?_
  refine pw_loc (L' := [(0, .ref 64), (2, .int (nI t)), (3, .int s), (4, .int 0), (5, .int (nI 0))]) rfl ?_
  rw [t00]
  exact lr_run hc1 hc ht J _ t 0 s 0 C _ (by omega) h ⟨_, rfl, rfl, rfl, rfl, rfl, rfl⟩
set_option maxRecDepth 100000 in
set_option maxHeartbeats 4000000 in
theorem r_run_x (s x : Int32) (I : pI) (J : pJ) (hx : ¬ (0 ≤ x ∧ x ≤ 2000)) : pMet yX6_run (pws yX6_run cX6_run 7 (some .int)) { frames := 3, cells := 0, slots := 0, locals := 76 } [.ref 64, .int s, .int x] 84 I J pRs (pOi (fun r I' J' => r = 0 ∧ I' = upI I 64 0 1 ∧ J' = J)) := by
  refine pMet_of (by decide) (Nat.le_of_ble_eq_true rfl) ?_
  refine pw_aload_n dX6_run_0 rfl ?_
  refine pw_iload_n dX6_run_1 rfl ?_
  refine pw_iconst (v := 0) dX6_run_2 (by decide) ?_
  refine pw_sipush (v := 2000) dX6_run_3 (by decide) ?_
  refine pw_cSi (y := yX6_in) (cc := cX6_in) (nL := 3) (ret := (some .boolean)) (rm := { frames := 0, cells := 0, slots := 0, locals := 0 }) dX6_run_6 (r_in _ _ _ _ _) w_X6_102 rfl ⟨by decide, by decide⟩ (by decide) (by decide) rfl (Nat.le_of_ble_eq_true rfl) (fun x6 I6 J6 q6 => ?_)
  obtain ⟨rfl, rfl, rfl⟩ := rvq q6
  rw [in_f hx]
  refine pw_if_ne (tgt := 16) dX6_run_9 (by decide) (fun z => absurd z (by decide)) (fun _ => ?_)
  refine pw_iconst (v := 1) dX6_run_12 (by decide) ?_
  refine pw_goto (tgt := 17) dX6_run_13 (by decide) ?_
  refine pw_iconst (v := 0) dX6_run_17 (by decide) ?_
  refine pw_cVi (ci := 6) (y := yX6_refuse) (cc := cX6_refuse) (nL := 3) (ret := (some .boolean)) (rm := { frames := 0, cells := 0, slots := 0, locals := 0 }) dX6_run_18 (r_refuse 1 0 _ _) w_X6_106 rfl (by decide) rfl ⟨by decide, by decide⟩ (by decide) (by decide) rfl (Nat.le_of_ble_eq_true rfl) (fun x18 I18 J18 q18 => ?_)
  obtain ⟨rfl, rfl, rfl⟩ := rvq q18
  refine pw_if_eq (tgt := 26) dX6_run_21 (by decide) (fun z => absurd z (by decide)) (fun _ => ?_)
  refine pw_iconst (v := 0) dX6_run_24 (by decide) ?_
  refine pw_iret dX6_run_25 rfl rfl (by decide) (by decide) ?_
  exact ⟨_, rfl, rfl, rfl, rfl, by rw [t10], rfl⟩
