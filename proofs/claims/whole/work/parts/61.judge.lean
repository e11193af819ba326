/-! the judge of the class: rows are added and read back, moves noted -/
def ntI (I : pI) (m t : Nat) : pI := upI (upI I 61 m (I 60 t)) 60 t (nI m)
def adJ (I : pI) (f : Nat) : Nat → Nat → pJ → pJ
  | 0, _, J => J
  | m + 1, p, J => adJ I f m (p + 1) (upJ J 57 (3 * f + p) (cpp I p))
def adA (I : pI) (t f : Nat) : pI := upI (upI (upI I 48 2 (nI (f + 1))) 58 t (nI f)) 56 f (I 50 2)
def adB (I : pI) (t f : Nat) (v : Int32) : pI := upI (upI (adA I t f) 59 f v) 60 f (-1)
theorem cpp_congr {I I' : pI} {p : Nat} (h : ∀ k, I' (52 + p) k = I (52 + p) k) (h2 : I' 55 p = I 55 p) : cpp I' p = cpp I p := by unfold cpp cpk; rw [h, h, h, h2]
theorem adJ_congr {I I' : pI} {f : Nat} (h : ∀ p, p < 3 → cpp I' p = cpp I p) : ∀ (m p : Nat) (J : pJ), p + m ≤ 3 → adJ I' f m p J = adJ I f m p J := by
  intro m
  induction m with
  | zero => intro p J _; rfl
  | succ m ih => intro p J hp; rw [adJ, adJ, h p (by omega), ih _ _ (by omega)]
theorem cpp_adA {I : pI} {t f p : Nat} (hp : p < 3) : cpp (adA I t f) p = cpp I p :=
  cpp_congr (fun k => by unfold adA; rw [upI_a (by omega), upI_a (by omega), upI_a (by omega)]) (by unfold adA; rw [upI_a (by decide), upI_a (by decide), upI_a (by decide)])
def iwL (I : pI) : Nat → Nat → Nat → Nat
  | 0, _, x => x
  | m + 1, p, x => iwL I m (p + 1) (if I (52 + p) 0 = 2 then x + 1 else x)
def unI (I : pI) (a : Nat) (v : Int64) : pI := upI (upI (upI I a 0 (v &&& 7).toInt32) a 1 ((us v 3) &&& 63).toInt32) a 2 ((us v 9) &&& 16777215).toInt32
def rsS (I : pI) (J : pJ) (s p : Nat) : pI := unI (upI I 55 p (J 57 (3 * s + p) &&& 3).toInt32) (52 + p) (us (J 57 (3 * s + p)) 2)
def rsL (J : pJ) (s : Nat) : Nat → Nat → pI → pI
  | 0, _, I => I
  | m + 1, p, I => rsL J s m (p + 1) (rsS I J s p)
def rsI (I : pI) (J : pJ) (c s : Nat) : pI := rsL J s c 0 (upI I 50 2 (I 56 s))
def flA (a : Nat) (v : Int32) : Nat → Nat → pI → pI
  | 0, _, I => I
  | m + 1, i, I => flA a v m (i + 1) (upI I a i v)
set_option maxRecDepth 100000 in
set_option maxHeartbeats 4000000 in
theorem c_noteMove {m t : Nat} (I : pI) (J : pJ) (hm : m < 9000) (ht : t < 3000) : pMet yX3_noteMove (pws yX3_noteMove cX3_noteMove 3 none) { frames := 0, cells := 0, slots := 0, locals := 0 } [.ref 48, .int (nI m), .int (nI t)] 84 I J pRs (pOv (fun I' J' => I' = ntI I m t ∧ J' = J)) := by
  refine pMet_of (by decide) (Nat.le_of_ble_eq_true rfl) ?_
  refine pw_aload_n dX3_noteMove_0 rfl ?_
  refine pw_getr dX3_noteMove_1 fl_X3_41 rfl rfl (by decide) (by decide) rfl ?_
  refine pw_iload_n dX3_noteMove_4 rfl ?_
  refine pw_aload_n dX3_noteMove_5 rfl ?_
  refine pw_getr dX3_noteMove_6 fl_X3_38 rfl rfl (by decide) (by decide) rfl ?_
  refine pw_iload_n dX3_noteMove_9 rfl ?_
  refine pw_iald dX3_noteMove_10 rfl (by decide) (by decide) (vp_in_nI (by omega) (by decide)) ?_
  rw [nI_clamp (show t < 2 ^ 31 by omega)]
  refine pw_iast dX3_noteMove_11 rfl (by decide) (by decide) (vp_in_nI (by omega) (by decide)) ?_
  rw [nI_clamp (show m < 2 ^ 31 by omega)]
  refine pw_aload_n dX3_noteMove_12 rfl ?_
  refine pw_getr dX3_noteMove_13 fl_X3_38 rfl rfl (by decide) (by decide) rfl ?_
  refine pw_iload_n dX3_noteMove_16 rfl ?_
  refine pw_iload_n dX3_noteMove_17 rfl ?_
  refine pw_iast dX3_noteMove_18 rfl (by decide) (by decide) (vp_in_nI (by omega) (by decide)) ?_
  rw [nI_clamp (show t < 2 ^ 31 by omega)]
  refine pw_vret dX3_noteMove_19 rfl (by decide) (by decide) ?_
  exact ⟨rfl, rfl, rfl, rfl, rfl⟩
abbrev m_X3_addState : pT := (yX3_addState.cls, cX3_addState, 5, none, { frames := 2, cells := 0, slots := 0, locals := 41 }, [], none)
theorem nI_m1 {m : Nat} (h : m < 2 ^ 31) : ¬ nI m = -1 := fun z => absurd (show nI m < 0 by rw [z]; decide) (nI_pos h)
set_option maxRecDepth 100000 in
set_option maxHeartbeats 4000000 in
theorem l_addState {c f : Nat} {v : Int32} (I : pI) (Q : pQ) (hf : f < 3000) (hc : c ≤ 3) (hI : I 50 1 = nI c) : ∀ (m p : Nat) (J : pJ), p + m = c → PW m_X3_addState Q 73 [(0, .ref 48), (2, .int v), (3, .int (nI f))] [] 84 I (adJ I f m p J) pRs 0 0 → PW m_X3_addState Q 38 [(0, .ref 48), (2, .int v), (3, .int (nI f)), (4, .int (nI p))] [] 84 I J pRs 0 0 := by
  intro m
  induction m with
  | zero =>
    intro p J hpm hK
    refine pw_iload dX3_addState_38 rfl ?_
    refine pw_aload_n dX3_addState_40 rfl ?_
    refine pw_getr dX3_addState_41 fl_X3_18 rfl rfl (by decide) (by decide) rfl ?_
    refine pw_geti dX3_addState_44 fl_X3_115 rfl rfl (by decide) (by decide) ?_
    refine pw_icmp_ge (tgt := 73) dX3_addState_47 (by decide) (fun h47 => ?_) (fun h47 => ?_)
    · refine pw_loc (L' := [(0, .ref 48), (2, .int v), (3, .int (nI f))]) rfl ?_
      exact hK
    · rw [hI] at h47
      exact absurd (nI_le (by omega) (by omega)) h47
  | succ m ih =>
    intro p J hpm hK
    refine pw_iload dX3_addState_38 rfl ?_
    refine pw_aload_n dX3_addState_40 rfl ?_
    refine pw_getr dX3_addState_41 fl_X3_18 rfl rfl (by decide) (by decide) rfl ?_
    refine pw_geti dX3_addState_44 fl_X3_115 rfl rfl (by decide) (by decide) ?_
    refine pw_icmp_ge (tgt := 73) dX3_addState_47 (by decide) (fun h47 => ?_) (fun h47 => ?_)
    · rw [hI] at h47
      exact absurd ((nI_leI (a := c) (b := p) (by omega) (by omega)).mp h47) (by omega)
    · refine pw_aload_n dX3_addState_50 rfl ?_
      refine pw_getr dX3_addState_51 fl_X3_28 rfl rfl (by decide) (by decide) rfl ?_
      refine pw_iconst (v := 3) dX3_addState_54 (by decide) ?_
      refine pw_iload_n dX3_addState_55 rfl ?_
      refine pw_imul dX3_addState_56 ?_
      refine pw_iload dX3_addState_57 rfl ?_
      refine pw_iadd dX3_addState_59 ?_
      rw [ix3]
      refine pw_aload_n dX3_addState_60 rfl ?_
      refine pw_iload dX3_addState_61 rfl ?_
      refine pw_cVl (ci := 3) (y := yX3_packedProcess) (cc := cX3_packedProcess) (nL := 2) (ret := (some .long)) (rm := { frames := 1, cells := 0, slots := 0, locals := 20 }) dX3_addState_63 (c_packedProcess _ _ (by omega)) w_X3_130 rfl (by decide) rfl ⟨by decide, by decide⟩ (by decide) (by decide) rfl (Nat.le_of_ble_eq_true rfl) (fun x63 I63 J63 q63 => ?_)
      obtain ⟨rfl, rfl, rfl⟩ := rvq q63
      refine pw_last dX3_addState_66 rfl (by decide) (by decide) (vp_in_nI (by omega) (by decide)) ?_
      rw [nI_clamp (show 3 * f + p < 2 ^ 31 by omega)]
      refine pw_iinc (v := nI (p + 1)) dX3_addState_67 rfl (by rw [nI_succ]; rfl) (by decide) ?_
      refine pw_goto (tgt := 38) dX3_addState_70 (by decide) ?_
      refine pw_loc (L' := [(0, .ref 48), (2, .int v), (3, .int (nI f)), (4, .int (nI (p + 1)))]) rfl ?_
      exact ih (p + 1) _ (by omega) (by rw [adJ] at hK; exact hK)
set_option maxRecDepth 100000 in
set_option maxHeartbeats 4000000 in
theorem c_addState0 {t f c : Nat} (I : pI) (J : pJ) (ht : t < 8192) (hf3 : f < 3000) (hc : c ≤ 3) (hf : I 48 2 = nI f) (hI : I 50 1 = nI c) : pMet yX3_addState (pws yX3_addState cX3_addState 5 none) { frames := 2, cells := 0, slots := 0, locals := 41 } [.ref 48, .int (nI t), .int (-1)] 84 I J pRs (pOv (fun I' J' => I' = adB I t f (-1) ∧ J' = adJ I f c 0 J)) := by
  refine pMet_of (by decide) (Nat.le_of_ble_eq_true rfl) ?_
  refine pw_aload_n dX3_addState_0 rfl ?_
  refine pw_geti dX3_addState_1 fl_X3_55 rfl rfl (by decide) (by decide) ?_
  rw [hf]
  refine pw_istore_n dX3_addState_4 (by decide) ?_
  refine pw_aload_n dX3_addState_5 rfl ?_
  refine pw_dup dX3_addState_6 rfl ?_
  refine pw_geti dX3_addState_7 fl_X3_55 rfl rfl (by decide) (by decide) ?_
  refine pw_iconst (v := 1) dX3_addState_10 (by decide) ?_
  refine pw_iadd dX3_addState_11 ?_
  rw [hf, show nI f + (1 : Int32) = nI (f + 1) from nI_1 f]
  refine pw_puti dX3_addState_12 fl_X3_55 rfl rfl rfl rfl rfl (by decide) (by decide) ?_
  refine pw_aload_n dX3_addState_15 rfl ?_
  refine pw_getr dX3_addState_16 fl_X3_32 rfl rfl (by decide) (by decide) rfl ?_
  refine pw_iload_n dX3_addState_19 rfl ?_
  refine pw_iload_n dX3_addState_20 rfl ?_
  refine pw_iast dX3_addState_21 rfl (by decide) (by decide) (vp_in_nI (by omega) (by decide)) ?_
  rw [nI_clamp (show t < 2 ^ 31 by omega)]
  refine pw_aload_n dX3_addState_22 rfl ?_
  refine pw_getr dX3_addState_23 fl_X3_25 rfl rfl (by decide) (by decide) rfl ?_
  refine pw_iload_n dX3_addState_26 rfl ?_
  refine pw_aload_n dX3_addState_27 rfl ?_
  refine pw_getr dX3_addState_28 fl_X3_18 rfl rfl (by decide) (by decide) rfl ?_
  refine pw_geti dX3_addState_31 fl_X3_112 rfl rfl (by decide) (by decide) ?_
  refine pw_iast dX3_addState_34 rfl (by decide) (by decide) (vp_in_nI (by omega) (by decide)) ?_
  rw [nI_clamp (show f < 2 ^ 31 by omega)]
  refine pw_iconst (v := 0) dX3_addState_35 (by decide) ?_
  refine pw_istore dX3_addState_36 (by decide) ?_
  refine pw_loc (L' := [(0, .ref 48), (2, .int (-1)), (3, .int (nI f)), (4, .int (nI 0))]) rfl ?_
  refine l_addState (c := c) (adA I t f) _ hf3 hc (by unfold adA; rw [upI_a (by decide), upI_a (by decide), upI_a (by decide)]; exact hI) c 0 J (by omega) ?_
  have e9 : adJ (adA I t f) f c 0 J = adJ I f c 0 J := adJ_congr (fun p hp => cpp_adA hp) c 0 J (by omega)
  rw [e9]
  refine pw_aload_n dX3_addState_73 rfl ?_
  refine pw_getr dX3_addState_74 fl_X3_35 rfl rfl (by decide) (by decide) rfl ?_
  refine pw_iload_n dX3_addState_77 rfl ?_
  refine pw_iload_n dX3_addState_78 rfl ?_
  refine pw_iast dX3_addState_79 rfl (by decide) (by decide) (vp_in_nI (by omega) (by decide)) ?_
  rw [nI_clamp (show f < 2 ^ 31 by omega)]
  refine pw_aload_n dX3_addState_80 rfl ?_
  refine pw_getr dX3_addState_81 fl_X3_38 rfl rfl (by decide) (by decide) rfl ?_
  refine pw_iload_n dX3_addState_84 rfl ?_
  refine pw_iconst (v := (-1)) dX3_addState_85 (by decide) ?_
  refine pw_iast dX3_addState_86 rfl (by decide) (by decide) (vp_in_nI (by omega) (by decide)) ?_
  rw [nI_clamp (show f < 2 ^ 31 by omega)]
  refine pw_iload_n dX3_addState_87 rfl ?_
  refine pw_iconst (v := (-1)) dX3_addState_88 (by decide) ?_
  refine pw_icmp_eq (tgt := 98) dX3_addState_89 (by decide) (fun h89 => ?_) (fun h89 => ?_)
  · refine pw_vret dX3_addState_98 rfl (by decide) (by decide) ?_
    exact ⟨rfl, rfl, rfl, rfl, rfl⟩
  · exact absurd rfl h89
set_option maxRecDepth 100000 in
set_option maxHeartbeats 4000000 in
theorem c_addState {t f c m : Nat} (I : pI) (J : pJ) (hm : m < 9000) (ht : t < 8192) (hf3 : f < 3000) (hc : c ≤ 3) (hf : I 48 2 = nI f) (hI : I 50 1 = nI c) : pMet yX3_addState (pws yX3_addState cX3_addState 5 none) { frames := 2, cells := 0, slots := 0, locals := 41 } [.ref 48, .int (nI t), .int (nI m)] 84 I J pRs (pOv (fun I' J' => I' = ntI (adB I t f (nI m)) m f ∧ J' = adJ I f c 0 J)) := by
  refine pMet_of (by decide) (Nat.le_of_ble_eq_true rfl) ?_
  refine pw_aload_n dX3_addState_0 rfl ?_
  refine pw_geti dX3_addState_1 fl_X3_55 rfl rfl (by decide) (by decide) ?_
  rw [hf]
  refine pw_istore_n dX3_addState_4 (by decide) ?_
  refine pw_aload_n dX3_addState_5 rfl ?_
  refine pw_dup dX3_addState_6 rfl ?_
  refine pw_geti dX3_addState_7 fl_X3_55 rfl rfl (by decide) (by decide) ?_
  refine pw_iconst (v := 1) dX3_addState_10 (by decide) ?_
  refine pw_iadd dX3_addState_11 ?_
  rw [hf, show nI f + (1 : Int32) = nI (f + 1) from nI_1 f]
  refine pw_puti dX3_addState_12 fl_X3_55 rfl rfl rfl rfl rfl (by decide) (by decide) ?_
  refine pw_aload_n dX3_addState_15 rfl ?_
  refine pw_getr dX3_addState_16 fl_X3_32 rfl rfl (by decide) (by decide) rfl ?_
  refine pw_iload_n dX3_addState_19 rfl ?_
  refine pw_iload_n dX3_addState_20 rfl ?_
  refine pw_iast dX3_addState_21 rfl (by decide) (by decide) (vp_in_nI (by omega) (by decide)) ?_
  rw [nI_clamp (show t < 2 ^ 31 by omega)]
  refine pw_aload_n dX3_addState_22 rfl ?_
  refine pw_getr dX3_addState_23 fl_X3_25 rfl rfl (by decide) (by decide) rfl ?_
  refine pw_iload_n dX3_addState_26 rfl ?_
  refine pw_aload_n dX3_addState_27 rfl ?_
  refine pw_getr dX3_addState_28 fl_X3_18 rfl rfl (by decide) (by decide) rfl ?_
  refine pw_geti dX3_addState_31 fl_X3_112 rfl rfl (by decide) (by decide) ?_
  refine pw_iast dX3_addState_34 rfl (by decide) (by decide) (vp_in_nI (by omega) (by decide)) ?_
  rw [nI_clamp (show f < 2 ^ 31 by omega)]
  refine pw_iconst (v := 0) dX3_addState_35 (by decide) ?_
  refine pw_istore dX3_addState_36 (by decide) ?_
  refine pw_loc (L' := [(0, .ref 48), (2, .int (nI m)), (3, .int (nI f)), (4, .int (nI 0))]) rfl ?_
  refine l_addState (c := c) (adA I t f) _ hf3 hc (by unfold adA; rw [upI_a (by decide), upI_a (by decide), upI_a (by decide)]; exact hI) c 0 J (by omega) ?_
  have e9 : adJ (adA I t f) f c 0 J = adJ I f c 0 J := adJ_congr (fun p hp => cpp_adA hp) c 0 J (by omega)
  rw [e9]
  refine pw_aload_n dX3_addState_73 rfl ?_
  refine pw_getr dX3_addState_74 fl_X3_35 rfl rfl (by decide) (by decide) rfl ?_
  refine pw_iload_n dX3_addState_77 rfl ?_
  refine pw_iload_n dX3_addState_78 rfl ?_
  refine pw_iast dX3_addState_79 rfl (by decide) (by decide) (vp_in_nI (by omega) (by decide)) ?_
  rw [nI_clamp (show f < 2 ^ 31 by omega)]
  refine pw_aload_n dX3_addState_80 rfl ?_
  refine pw_getr dX3_addState_81 fl_X3_38 rfl rfl (by decide) (by decide) rfl ?_
  refine pw_iload_n dX3_addState_84 rfl ?_
  refine pw_iconst (v := (-1)) dX3_addState_85 (by decide) ?_
  refine pw_iast dX3_addState_86 rfl (by decide) (by decide) (vp_in_nI (by omega) (by decide)) ?_
  rw [nI_clamp (show f < 2 ^ 31 by omega)]
  refine pw_iload_n dX3_addState_87 rfl ?_
  refine pw_iconst (v := (-1)) dX3_addState_88 (by decide) ?_
  refine pw_icmp_eq (tgt := 98) dX3_addState_89 (by decide) (fun h89 => ?_) (fun h89 => ?_)
  · exact absurd h89 (nI_m1 (by omega))
  · refine pw_aload_n dX3_addState_92 rfl ?_
    refine pw_iload_n dX3_addState_93 rfl ?_
    refine pw_iload_n dX3_addState_94 rfl ?_
    refine pw_cVv (ci := 3) (y := yX3_noteMove) (cc := cX3_noteMove) (nL := 3) (ret := none) (rm := { frames := 0, cells := 0, slots := 0, locals := 0 }) dX3_addState_95 (c_noteMove _ _ hm hf3) w_X3_106 rfl (by decide) rfl ⟨by decide, by decide⟩ (by decide) (by decide) rfl (Nat.le_of_ble_eq_true rfl) (fun I95 J95 q95 => ?_)
    obtain ⟨rfl, rfl⟩ := rvv q95
    refine pw_vret dX3_addState_98 rfl (by decide) (by decide) ?_
    exact ⟨rfl, rfl, rfl, rfl, rfl⟩
abbrev m_X3_insideNow : pT := (yX3_insideNow.cls, cX3_insideNow, 3, (some .int), { frames := 0, cells := 0, slots := 0, locals := 0 }, [], none)
set_option maxRecDepth 100000 in
set_option maxHeartbeats 4000000 in
theorem l_inside {c : Nat} (I : pI) (J : pJ) (Q : pQ) (hc : c ≤ 3) (hI : I 50 1 = nI c) : ∀ (m p x : Nat), p + m = c → Q (.inl (some (.int (nI (iwL I m p x))))) 84 I J pRs → PW m_X3_insideNow Q 4 [(0, .ref 48), (1, .int (nI x)), (2, .int (nI p))] [] 84 I J pRs 0 0 := by
  intro m
  induction m with
  | zero =>
    intro p x hpm hQ
    refine pw_iload_n dX3_insideNow_4 rfl ?_
    refine pw_aload_n dX3_insideNow_5 rfl ?_
    refine pw_getr dX3_insideNow_6 fl_X3_18 rfl rfl (by decide) (by decide) rfl ?_
    refine pw_geti dX3_insideNow_9 fl_X3_115 rfl rfl (by decide) (by decide) ?_
    refine pw_icmp_ge (tgt := 40) dX3_insideNow_12 (by decide) (fun h12 => ?_) (fun h12 => ?_)
    · refine pw_iload_n dX3_insideNow_40 rfl ?_
      refine pw_iret dX3_insideNow_41 rfl rfl (by decide) (by decide) ?_
      exact hQ
    · rw [hI] at h12
      exact absurd (nI_le (by omega) (by omega)) h12
  | succ m ih =>
    intro p x hpm hQ
    refine pw_iload_n dX3_insideNow_4 rfl ?_
    refine pw_aload_n dX3_insideNow_5 rfl ?_
    refine pw_getr dX3_insideNow_6 fl_X3_18 rfl rfl (by decide) (by decide) rfl ?_
    refine pw_geti dX3_insideNow_9 fl_X3_115 rfl rfl (by decide) (by decide) ?_
    refine pw_icmp_ge (tgt := 40) dX3_insideNow_12 (by decide) (fun h12 => ?_) (fun h12 => ?_)
    · rw [hI] at h12
      exact absurd ((nI_leI (a := c) (b := p) (by omega) (by omega)).mp h12) (by omega)
    · refine pw_aload_n dX3_insideNow_15 rfl ?_
      refine pw_getr dX3_insideNow_16 fl_X3_18 rfl rfl (by decide) (by decide) rfl ?_
      refine pw_getr dX3_insideNow_19 fl_X3_93 rfl rfl (by decide) (by decide) rfl ?_
      refine pw_iload_n dX3_insideNow_22 rfl ?_
      refine pw_aaldC (x := 52 + p) dX3_insideNow_23 rfl (by decide) (by decide) (vp_in_nI (by omega) (by decide)) (by rw [nI_clamp (by omega)]; rfl) ?_
      refine pw_geti dX3_insideNow_24 fl_X3_97 rfl (pS_coj (show p < 3 by omega)) (by omega) (by decide) ?_
      refine pw_iconst (v := 2) dX3_insideNow_27 (by decide) ?_
      refine pw_icmp_ne (tgt := 34) dX3_insideNow_28 (by decide) (fun h28 => ?_) (fun h28 => ?_)
      · refine pw_iinc (v := nI (p + 1)) dX3_insideNow_34 rfl (by rw [nI_succ]; rfl) (by decide) ?_
        refine pw_goto (tgt := 4) dX3_insideNow_37 (by decide) ?_
        refine pw_loc (L' := [(0, .ref 48), (1, .int (nI x)), (2, .int (nI (p + 1)))]) rfl ?_
        exact ih (p + 1) _ (by omega) (by rw [iwL, if_neg h28] at hQ; exact hQ)
      · refine pw_iinc (v := nI (x + 1)) dX3_insideNow_31 rfl (by rw [nI_succ]; rfl) (by decide) ?_
        refine pw_iinc (v := nI (p + 1)) dX3_insideNow_34 rfl (by rw [nI_succ]; rfl) (by decide) ?_
        refine pw_goto (tgt := 4) dX3_insideNow_37 (by decide) ?_
        refine pw_loc (L' := [(0, .ref 48), (1, .int (nI (x + 1))), (2, .int (nI (p + 1)))]) rfl ?_
        exact ih (p + 1) _ (by omega) (by rw [iwL, if_pos h28] at hQ; exact hQ)
set_option maxRecDepth 100000 in
set_option maxHeartbeats 4000000 in
theorem c_insideNow {c : Nat} (I : pI) (J : pJ) (hc : c ≤ 3) (hI : I 50 1 = nI c) : pMet yX3_insideNow (pws yX3_insideNow cX3_insideNow 3 (some .int)) { frames := 0, cells := 0, slots := 0, locals := 0 } [.ref 48] 84 I J pRs (pOi (fun r I' J' => r = nI (iwL I c 0 0) ∧ I' = I ∧ J' = J)) := by
  refine pMet_of (by decide) (Nat.le_of_ble_eq_true rfl) ?_
  refine pw_iconst (v := 0) dX3_insideNow_0 (by decide) ?_
  refine pw_istore_n dX3_insideNow_1 (by decide) ?_
  refine pw_iconst (v := 0) dX3_insideNow_2 (by decide) ?_
  refine pw_istore_n dX3_insideNow_3 (by decide) ?_
  refine pw_loc (L' := [(0, .ref 48), (1, .int (nI 0)), (2, .int (nI 0))]) rfl ?_
  exact l_inside I J _ hc hI c 0 0 (by omega) ⟨_, rfl, rfl, rfl, rfl, rfl, rfl⟩
abbrev m_X3_restore : pT := (yX3_restore.cls, cX3_restore, 5, none, { frames := 1, cells := 0, slots := 0, locals := 22 }, [], none)
set_option maxRecDepth 100000 in
set_option maxHeartbeats 4000000 in
theorem l_restore {c s : Nat} (J : pJ) (Q : pQ) (hs : s < 3000) (hc : c ≤ 3) : ∀ (m p : Nat) (I : pI), p + m = c → I 50 1 = nI c → Q (.inl none) 84 (rsL J s m p I) J pRs → PW m_X3_restore Q 15 [(0, .ref 48), (1, .int (nI s)), (2, .int (nI p))] [] 84 I J pRs 0 0 := by
  intro m
  induction m with
  | zero =>
    intro p I hpm hI hQ
    refine pw_iload_n dX3_restore_15 rfl ?_
    refine pw_aload_n dX3_restore_16 rfl ?_
    refine pw_getr dX3_restore_17 fl_X3_18 rfl rfl (by decide) (by decide) rfl ?_
    refine pw_geti dX3_restore_20 fl_X3_115 rfl rfl (by decide) (by decide) ?_
    refine pw_icmp_ge (tgt := 70) dX3_restore_23 (by decide) (fun h23 => ?_) (fun h23 => ?_)
    · refine pw_vret dX3_restore_70 rfl (by decide) (by decide) ?_
      exact hQ
    · rw [hI] at h23
      exact absurd (nI_le (by omega) (by omega)) h23
  | succ m ih =>
    intro p I hpm hI hQ
    refine pw_iload_n dX3_restore_15 rfl ?_
    refine pw_aload_n dX3_restore_16 rfl ?_
    refine pw_getr dX3_restore_17 fl_X3_18 rfl rfl (by decide) (by decide) rfl ?_
    refine pw_geti dX3_restore_20 fl_X3_115 rfl rfl (by decide) (by decide) ?_
    refine pw_icmp_ge (tgt := 70) dX3_restore_23 (by decide) (fun h23 => ?_) (fun h23 => ?_)
    · rw [hI] at h23
      exact absurd ((nI_leI (a := c) (b := p) (by omega) (by omega)).mp h23) (by omega)
    · refine pw_aload_n dX3_restore_26 rfl ?_
      refine pw_getr dX3_restore_27 fl_X3_28 rfl rfl (by decide) (by decide) rfl ?_
      refine pw_iconst (v := 3) dX3_restore_30 (by decide) ?_
      refine pw_iload_n dX3_restore_31 rfl ?_
      refine pw_imul dX3_restore_32 ?_
      refine pw_iload_n dX3_restore_33 rfl ?_
      refine pw_iadd dX3_restore_34 ?_
      rw [ix3]
      refine pw_lald dX3_restore_35 rfl (by decide) (by decide) (vp_in_nI (by omega) (by decide)) ?_
      rw [nI_clamp (show 3 * s + p < 2 ^ 31 by omega)]
      refine pw_lstore_n dX3_restore_36 (by decide) ?_
      refine pw_aload_n dX3_restore_37 rfl ?_
      refine pw_getr dX3_restore_38 fl_X3_22 rfl rfl (by decide) (by decide) rfl ?_
      refine pw_iload_n dX3_restore_41 rfl ?_
      refine pw_lload_n dX3_restore_42 rfl ?_
      refine pw_ldc2 (v := (3)) dX3_restore_43 k_X3_118 ?_
      refine pw_land dX3_restore_46 ?_
      refine pw_l2i dX3_restore_47 ?_
      refine pw_iast dX3_restore_48 rfl (by decide) (by decide) (vp_in_nI (by omega) (by decide)) ?_
      rw [nI_clamp (show p < 2 ^ 31 by omega)]
      refine pw_aload_n dX3_restore_49 rfl ?_
      refine pw_getr dX3_restore_50 fl_X3_18 rfl rfl (by decide) (by decide) rfl ?_
      refine pw_getr dX3_restore_53 fl_X3_93 rfl rfl (by decide) (by decide) rfl ?_
      refine pw_iload_n dX3_restore_56 rfl ?_
      refine pw_aaldC (x := 52 + p) dX3_restore_57 rfl (by decide) (by decide) (vp_in_nI (by omega) (by decide)) (by rw [nI_clamp (by omega)]; rfl) ?_
      refine pw_lload_n dX3_restore_58 rfl ?_
      refine pw_iconst (v := 2) dX3_restore_59 (by decide) ?_
      refine pw_lushr dX3_restore_60 ?_
      refine pw_cVv (ci := 0) (y := yX0_unpack) (cc := cX0_unpack) (nL := 3) (ret := none) (rm := { frames := 0, cells := 0, slots := 0, locals := 0 }) dX3_restore_61 (c_unpack _ _ _ (pS_coj (show p < 3 by omega)) (by omega)) w_X3_120 (pS_coj (show p < 3 by omega)) (by omega) rfl ⟨by decide, by decide⟩ (by decide) (by decide) rfl (Nat.le_of_ble_eq_true rfl) (fun I61 J61 q61 => ?_)
      obtain ⟨rfl, rfl⟩ := rvv q61
      refine pw_iinc (v := nI (p + 1)) dX3_restore_64 rfl (by rw [nI_succ]; rfl) (by decide) ?_
      refine pw_goto (tgt := 15) dX3_restore_67 (by decide) ?_
      refine pw_loc (L' := [(0, .ref 48), (1, .int (nI s)), (2, .int (nI (p + 1)))]) rfl ?_
      exact ih (p + 1) (rsS I J s p) (by omega) (by unfold rsS unI; rw [upI_a (by omega), upI_a (by omega), upI_a (by omega), upI_a (by decide)]; exact hI) (by rw [rsL] at hQ; exact hQ)
set_option maxRecDepth 100000 in
set_option maxHeartbeats 4000000 in
theorem c_restore {c s : Nat} (I : pI) (J : pJ) (hs : s < 3000) (hc : c ≤ 3) (hI : I 50 1 = nI c) : pMet yX3_restore (pws yX3_restore cX3_restore 5 none) { frames := 1, cells := 0, slots := 0, locals := 22 } [.ref 48, .int (nI s)] 84 I J pRs (pOv (fun I' J' => I' = rsI I J c s ∧ J' = J)) := by
  refine pMet_of (by decide) (Nat.le_of_ble_eq_true rfl) ?_
  refine pw_aload_n dX3_restore_0 rfl ?_
  refine pw_getr dX3_restore_1 fl_X3_18 rfl rfl (by decide) (by decide) rfl ?_
  refine pw_aload_n dX3_restore_4 rfl ?_
  refine pw_getr dX3_restore_5 fl_X3_25 rfl rfl (by decide) (by decide) rfl ?_
  refine pw_iload_n dX3_restore_8 rfl ?_
  refine pw_iald dX3_restore_9 rfl (by decide) (by decide) (vp_in_nI (by omega) (by decide)) ?_
  rw [nI_clamp (show s < 2 ^ 31 by omega)]
  refine pw_puti dX3_restore_10 fl_X3_112 rfl rfl rfl rfl rfl (by decide) (by decide) ?_
  refine pw_iconst (v := 0) dX3_restore_13 (by decide) ?_
  refine pw_istore_n dX3_restore_14 (by decide) ?_
  refine pw_loc (L' := [(0, .ref 48), (1, .int (nI s)), (2, .int (nI 0))]) rfl ?_
  exact l_restore J _ hs hc c 0 _ (by omega) (by rw [upI_k (by decide)]; exact hI) ⟨rfl, rfl, rfl, rfl, rfl⟩
abbrev m_J7_fill_53178 : pT := (yJ7_fill_53178.cls, cJ7_fill_53178, 4, none, { frames := 0, cells := 0, slots := 0, locals := 0 }, [], none)
set_option maxRecDepth 100000 in
set_option maxHeartbeats 4000000 in
theorem l_jfill {a N : Nat} {v : Int32} (J : pJ) (Q : pQ) (hk : pS a = (7, N)) (ha : a < 84) (hN : N < 2 ^ 31) : ∀ (m i : Nat) (I : pI), i + m = N → Q (.inl none) 84 (flA a v m i I) J pRs → PW m_J7_fill_53178 Q 5 [(0, .ref a), (1, .int v), (2, .int (nI i)), (3, .int (nI N))] [] 84 I J pRs 0 0 := by
  intro m
  induction m with
  | zero =>
    intro i I him hQ
    refine pw_iload_n dJ_5 rfl ?_
    refine pw_iload_n dJ_6 rfl ?_
    refine pw_icmp_ge (tgt := 20) dJ_7 (by decide) (fun h7 => ?_) (fun h7 => ?_)
    · refine pw_vret dJ_20 rfl (by decide) (by decide) ?_
      exact hQ
    · exact absurd (nI_le (by omega) (by omega)) h7
  | succ m ih =>
    intro i I him hQ
    refine pw_iload_n dJ_5 rfl ?_
    refine pw_iload_n dJ_6 rfl ?_
    refine pw_icmp_ge (tgt := 20) dJ_7 (by decide) (fun h7 => ?_) (fun h7 => ?_)
    · exact absurd ((nI_leI (a := N) (b := i) (by omega) (by omega)).mp h7) (by omega)
    · refine pw_aload_n dJ_10 rfl ?_
      refine pw_iload_n dJ_11 rfl ?_
      refine pw_iload_n dJ_12 rfl ?_
      refine pw_iast dJ_13 hk ha (by decide) (vp_in_nI (by omega) (by omega)) ?_
      rw [nI_clamp (show i < 2 ^ 31 by omega)]
      refine pw_iinc (v := nI (i + 1)) dJ_14 rfl (by rw [nI_succ]; rfl) (by decide) ?_
      refine pw_goto (tgt := 5) dJ_17 (by decide) ?_
      refine pw_loc (L' := [(0, .ref a), (1, .int v), (2, .int (nI (i + 1))), (3, .int (nI N))]) rfl ?_
      exact ih (i + 1) _ (by omega) (by rw [flA] at hQ; exact hQ)
set_option maxRecDepth 100000 in
set_option maxHeartbeats 4000000 in
theorem c_jfill {a N : Nat} (v : Int32) (I : pI) (J : pJ) (hk : pS a = (7, N)) (ha : a < 84) (hN : N < 2 ^ 31) : pMet yJ7_fill_53178 (pws yJ7_fill_53178 cJ7_fill_53178 4 none) { frames := 0, cells := 0, slots := 0, locals := 0 } [.ref a, .int v] 84 I J pRs (pOv (fun I' J' => I' = flA a v N 0 I ∧ J' = J)) := by
  refine pMet_of (by decide) (Nat.le_of_ble_eq_true rfl) ?_
  refine pw_iconst (v := 0) dJ_0 (by decide) ?_
  refine pw_istore_n dJ_1 (by decide) ?_
  refine pw_aload_n dJ_2 rfl ?_
  refine pw_alen (v := nI N) dJ_3 hk ha (by decide) rfl ?_
  refine pw_istore_n dJ_4 (by decide) ?_
  refine pw_loc (L' := [(0, .ref a), (1, .int v), (2, .int (nI 0)), (3, .int (nI N))]) rfl ?_
  exact l_jfill J _ hk ha hN N 0 _ (by omega) ⟨rfl, rfl, rfl, rfl, rfl⟩
abbrev m_X3_isOver : pT := (yX3_isOver.cls, cX3_isOver, 5, (some .boolean), { frames := 0, cells := 0, slots := 0, locals := 0 }, [], none)
def orL (J : pJ) (s : Nat) : Nat → Nat → Int64 → Int64
  | 0, _, x => x
  | m + 1, p, x => orL J s m (p + 1) (x ||| J 57 (3 * s + p))
set_option maxRecDepth 100000 in
set_option maxHeartbeats 4000000 in
theorem l_isOver {c s : Nat} (I : pI) (J : pJ) (Q : pQ) (hs : s < 3000) (hc : c ≤ 3) (hI : I 50 1 = nI c) : ∀ (m p : Nat) (x : Int64), p + m = c → Q (.inl (some (.int (if orL J s m p x = 0 then 1 else 0)))) 84 I J pRs → PW m_X3_isOver Q 5 [(0, .ref 48), (1, .int (nI s)), (2, .long x), (4, .int (nI p))] [] 84 I J pRs 0 0 := by
  intro m
  induction m with
  | zero =>
    intro p x hpm hQ
    refine pw_iload dX3_isOver_5 rfl ?_
    refine pw_aload_n dX3_isOver_7 rfl ?_
    refine pw_getr dX3_isOver_8 fl_X3_18 rfl rfl (by decide) (by decide) rfl ?_
    refine pw_geti dX3_isOver_11 fl_X3_115 rfl rfl (by decide) (by decide) ?_
    refine pw_icmp_ge (tgt := 37) dX3_isOver_14 (by decide) (fun h14 => ?_) (fun h14 => ?_)
    · refine pw_lload_n dX3_isOver_37 rfl ?_
      refine pw_lconst (v := 0) dX3_isOver_38 (by decide) ?_
      refine pw_lcmp dX3_isOver_39 ?_
      refine pw_if_ne (tgt := 47) dX3_isOver_40 (by decide) (fun h40 => ?_) (fun h40 => ?_)
      · have z9 : ¬ x = 0 := fun z => h40 ((lg_cmp_eq _ _).mpr z)
        refine pw_iconst (v := 0) dX3_isOver_47 (by decide) ?_
        refine pw_iret dX3_isOver_48 rfl rfl (by decide) (by decide) ?_
        rw [orL, if_neg z9] at hQ
        exact hQ
      · have z9 := (lg_cmp_eq _ _).mp h40
        refine pw_iconst (v := 1) dX3_isOver_43 (by decide) ?_
        refine pw_goto (tgt := 48) dX3_isOver_44 (by decide) ?_
        refine pw_iret dX3_isOver_48 rfl rfl (by decide) (by decide) ?_
        rw [orL, if_pos z9] at hQ
        exact hQ
    · rw [hI] at h14
      exact absurd (nI_le (by omega) (by omega)) h14
  | succ m ih =>
    intro p x hpm hQ
    refine pw_iload dX3_isOver_5 rfl ?_
    refine pw_aload_n dX3_isOver_7 rfl ?_
    refine pw_getr dX3_isOver_8 fl_X3_18 rfl rfl (by decide) (by decide) rfl ?_
    refine pw_geti dX3_isOver_11 fl_X3_115 rfl rfl (by decide) (by decide) ?_
    refine pw_icmp_ge (tgt := 37) dX3_isOver_14 (by decide) (fun h14 => ?_) (fun h14 => ?_)
    · rw [hI] at h14
      exact absurd ((nI_leI (a := c) (b := p) (by omega) (by omega)).mp h14) (by omega)
    · refine pw_lload_n dX3_isOver_17 rfl ?_
      refine pw_aload_n dX3_isOver_18 rfl ?_
      refine pw_getr dX3_isOver_19 fl_X3_28 rfl rfl (by decide) (by decide) rfl ?_
      refine pw_iconst (v := 3) dX3_isOver_22 (by decide) ?_
      refine pw_iload_n dX3_isOver_23 rfl ?_
      refine pw_imul dX3_isOver_24 ?_
      refine pw_iload dX3_isOver_25 rfl ?_
      refine pw_iadd dX3_isOver_27 ?_
      rw [ix3]
      refine pw_lald dX3_isOver_28 rfl (by decide) (by decide) (vp_in_nI (by omega) (by decide)) ?_
      rw [nI_clamp (show 3 * s + p < 2 ^ 31 by omega)]
      refine pw_lor dX3_isOver_29 ?_
      refine pw_lstore_n dX3_isOver_30 (by decide) ?_
      refine pw_iinc (v := nI (p + 1)) dX3_isOver_31 rfl (by rw [nI_succ]; rfl) (by decide) ?_
      refine pw_goto (tgt := 5) dX3_isOver_34 (by decide) ?_
      refine pw_loc (L' := [(0, .ref 48), (1, .int (nI s)), (2, .long (x ||| J 57 (3 * s + p))), (4, .int (nI (p + 1)))]) rfl ?_
      exact ih (p + 1) _ (by omega) (by rw [orL] at hQ; exact hQ)
set_option maxRecDepth 100000 in
set_option maxHeartbeats 4000000 in
theorem c_isOver {c s : Nat} (I : pI) (J : pJ) (hs : s < 3000) (hc : c ≤ 3) (hI : I 50 1 = nI c) : pMet yX3_isOver (pws yX3_isOver cX3_isOver 5 (some .boolean)) { frames := 0, cells := 0, slots := 0, locals := 0 } [.ref 48, .int (nI s)] 84 I J pRs (pOi (fun r I' J' => r = (if orL J s c 0 0 = 0 then 1 else 0) ∧ I' = I ∧ J' = J)) := by
  refine pMet_of (by decide) (Nat.le_of_ble_eq_true rfl) ?_
  refine pw_lconst (v := 0) dX3_isOver_0 (by decide) ?_
  refine pw_lstore_n dX3_isOver_1 (by decide) ?_
  refine pw_iconst (v := 0) dX3_isOver_2 (by decide) ?_
  refine pw_istore dX3_isOver_3 (by decide) ?_
  refine pw_loc (L' := [(0, .ref 48), (1, .int (nI s)), (2, .long 0), (4, .int (nI 0))]) rfl ?_
  exact l_isOver I J _ hs hc hI c 0 0 (by omega) ⟨_, rfl, rfl, rfl, rfl, rfl, rfl⟩
def neI (I : pI) (e s : Nat) : pI := upI (upI (upI I 62 s 1) 63 e (nI s)) 48 13 (nI (e + 1))
set_option maxRecDepth 100000 in
set_option maxHeartbeats 4000000 in
theorem c_noteEnding_t {s : Nat} (I : pI) (J : pJ) (hs : s < 3000) (h62 : ¬ I 62 s = 0) : pMet yX3_noteEnding (pws yX3_noteEnding cX3_noteEnding 2 none) { frames := 0, cells := 0, slots := 0, locals := 0 } [.ref 48, .int (nI s)] 84 I J pRs (pOv (fun I' J' => I' = I ∧ J' = J)) := by
  refine pMet_of (by decide) (Nat.le_of_ble_eq_true rfl) ?_
  refine pw_aload_n dX3_noteEnding_0 rfl ?_
  refine pw_getr dX3_noteEnding_1 fl_X3_44 rfl rfl (by decide) (by decide) rfl ?_
  refine pw_iload_n dX3_noteEnding_4 rfl ?_
  refine pw_zald dX3_noteEnding_5 rfl (by decide) (by decide) (vp_in_nI (by omega) (by decide)) ?_
  rw [nI_clamp (show s < 2 ^ 31 by omega)]
  refine pw_if_ne (tgt := 36) dX3_noteEnding_6 (by decide) (fun _ => ?_) (fun z => absurd z h62)
  refine pw_vret dX3_noteEnding_36 rfl (by decide) (by decide) ?_
  exact ⟨rfl, rfl, rfl, rfl, rfl⟩
set_option maxRecDepth 100000 in
set_option maxHeartbeats 4000000 in
theorem c_noteEnding {s e : Nat} (I : pI) (J : pJ) (hs : s < 3000) (h62 : I 62 s = 0) (he : I 48 13 = nI e) (he3 : e < 3000) : pMet yX3_noteEnding (pws yX3_noteEnding cX3_noteEnding 2 none) { frames := 0, cells := 0, slots := 0, locals := 0 } [.ref 48, .int (nI s)] 84 I J pRs (pOv (fun I' J' => I' = neI I e s ∧ J' = J)) := by
  refine pMet_of (by decide) (Nat.le_of_ble_eq_true rfl) ?_
  refine pw_aload_n dX3_noteEnding_0 rfl ?_
  refine pw_getr dX3_noteEnding_1 fl_X3_44 rfl rfl (by decide) (by decide) rfl ?_
  refine pw_iload_n dX3_noteEnding_4 rfl ?_
  refine pw_zald dX3_noteEnding_5 rfl (by decide) (by decide) (vp_in_nI (by omega) (by decide)) ?_
  rw [nI_clamp (show s < 2 ^ 31 by omega)]
  refine pw_if_ne (tgt := 36) dX3_noteEnding_6 (by decide) (fun z => absurd h62 z) (fun _ => ?_)
  refine pw_aload_n dX3_noteEnding_9 rfl ?_
  refine pw_getr dX3_noteEnding_10 fl_X3_44 rfl rfl (by decide) (by decide) rfl ?_
  refine pw_iload_n dX3_noteEnding_13 rfl ?_
  refine pw_iconst (v := 1) dX3_noteEnding_14 (by decide) ?_
  refine pw_zast dX3_noteEnding_15 rfl (by decide) (by decide) (vp_in_nI (by omega) (by decide)) rfl ?_
  rw [nI_clamp (show s < 2 ^ 31 by omega)]
  refine pw_aload_n dX3_noteEnding_16 rfl ?_
  refine pw_getr dX3_noteEnding_17 fl_X3_48 rfl rfl (by decide) (by decide) rfl ?_
  refine pw_aload_n dX3_noteEnding_20 rfl ?_
  refine pw_geti dX3_noteEnding_21 fl_X3_138 rfl rfl (by decide) (by decide) ?_
  rw [show upI I 62 s 1 48 13 = nI e by rw [upI_a (by decide)]; exact he]
  refine pw_iload_n dX3_noteEnding_24 rfl ?_
  refine pw_iast dX3_noteEnding_25 rfl (by decide) (by decide) (vp_in_nI (by omega) (by decide)) ?_
  rw [nI_clamp (show e < 2 ^ 31 by omega)]
  refine pw_aload_n dX3_noteEnding_26 rfl ?_
  refine pw_dup dX3_noteEnding_27 rfl ?_
  refine pw_geti dX3_noteEnding_28 fl_X3_138 rfl rfl (by decide) (by decide) ?_
  refine pw_iconst (v := 1) dX3_noteEnding_31 (by decide) ?_
  refine pw_iadd dX3_noteEnding_32 ?_
  rw [show upI (upI I 62 s 1) 63 e (nI s) 48 13 = nI e by rw [upI_a (by decide), upI_a (by decide)]; exact he, show nI e + (1 : Int32) = nI (e + 1) from nI_1 e]
  refine pw_puti dX3_noteEnding_33 fl_X3_138 rfl rfl rfl rfl rfl (by decide) (by decide) ?_
  refine pw_vret dX3_noteEnding_36 rfl (by decide) (by decide) ?_
  exact ⟨rfl, rfl, rfl, rfl, rfl⟩
