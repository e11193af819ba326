/-! JUDGE, both sides -/
theorem allC_le {c : Nat} (hc : c ≤ 3) : ∀ (m s : Nat) (to : Nat → Option Nat) (x y : Int32 × Nat × pI × pJ), SA to c s x y → x.2.1 ≤ (allC c m s x).2.1 := by
  intro m
  induction m with
  | zero => intro s to x y _; exact Nat.le_refl _
  | succ m ih =>
    intro s to x y h
    rw [allC]
    by_cases hg : s < x.2.1 ∧ x.1 = 0
    · obtain ⟨g1, to', g2, -⟩ := h.row hc hg.1 hg.2
      rw [if_pos hg]
      exact Nat.le_trans g1 (ih (s + 1) to' _ _ g2)
    · rw [if_neg hg]; exact Nat.le_refl _
def jX (I : pI) (J : pJ) (c a : Nat) : Int32 × Nat × pI × pJ := allC c 3000 0 (0, 1, stI I J c a, stJ I J c a)
def jL (x : Int32 × Nat × pI × pJ) : List Nat := if x.1 = 1 then pth x.2.2.1 59 3 x.2.1 (x.2.1 - 1) else []
def jV (all : Prop) (v r : Int32) : Prop := (v = 1 ∧ r = 1) ∨ (v = 3 ∧ r = 3) ∨ (¬ v = 1 ∧ ¬ v = 3 ∧ ((r = 0 ∧ all) ∨ (r = 2 ∧ ¬ all)))
def CJ (I : pI) (J : pJ) (c a : Nat) (to : Nat → Option Nat) (r : Int32) (I' : pI) (J' : pJ) : Prop :=
  (∀ b k, (b < 48 ∨ 63 < b) → I' b k = I b k) ∧ (∀ b k, b ≠ 57 → J' b k = J b k) ∧ I' 48 2 = nI (jX I J c a).2.1 ∧ I' 48 1 = nI (jL (jX I J c a)).length ∧ (∀ j, j < (jL (jX I J c a)).length → I' 49 j = nI ((jL (jX I J c a)).getD ((jL (jX I J c a)).length - 1 - j) 0)) ∧
  jV (∀ s, s < (jX I J c a).2.1 → CE (fun t => orL (jX I J c a).2.2.2 t c 0 0 = 0) to s) (jX I J c a).1 r
theorem stI_FC {I : pI} {J : pJ} {c a : Nat} : (∀ b k, (b < 48 ∨ 61 < b) → stI I J c a b k = I b k) ∧ stI I J c a 48 1 = 0 ∧ (∀ b k, b ≠ 57 → stJ I J c a b k = J b k) := by
  refine ⟨fun b k hb => ?_, ?_, fun b k hb => adJ_a hb _ _ _⟩
  · unfold stI adB adA
    rw [upI_a (by omega), upI_a (by omega), upI_a (by omega), upI_a (by omega), upI_a (by omega), stA_o (by omega)]
  · unfold stI adB adA
    rw [upI_a (by decide), upI_a (by decide), upI_a (by decide), upI_a (by decide), upI_k (by decide), stA_t]
theorem jX_FC {I : pI} {J : pJ} {c a : Nat} (hc : c ≤ 3) : (∀ b k, (b < 48 ∨ 61 < b) → (jX I J c a).2.2.1 b k = I b k) ∧ (jX I J c a).2.2.1 48 1 = 0 ∧ (∀ b k, b ≠ 57 → (jX I J c a).2.2.2 b k = J b k) := by
  obtain ⟨g1, g2⟩ := FC.all (I0 := stI I J c a) (J0 := stJ I J c a) hc 3000 0 (0, 1, stI I J c a, stJ I J c a) ⟨fun _ _ _ => rfl, fun _ _ _ => rfl⟩
  obtain ⟨s1, s2, s3⟩ := stI_FC (I := I) (J := J) (c := c) (a := a)
  exact ⟨fun b k hb => (g1 b k (by omega)).trans (s1 b k hb), (g1 48 1 (by omega)).trans s2, fun b k hb => (g2 b k hb).trans (s3 b k hb)⟩
/-- what both sides know of the search's end -/
def JEnd (to : Nat → Option Nat) (c : Nat) (x y : Int32 × Nat × pI × pJ) : Prop := 0 < x.2.1 ∧ x.2.1 = y.2.1 ∧ ((x.1 = 0 ∧ y.1 = -1 ∧ JRow to x.2.2.1 x.2.2.2 y.2.2.1 y.2.2.2 c x.2.1 x.2.1) ∨ (((x.1 = 1 ∧ y.1 = 1) ∨ (x.1 = 3 ∧ y.1 = 3)) ∧ JTr x.2.2.1 y.2.2.1 x.2.1))
def kY (K : pI) (JK : pJ) (c a : Nat) : Int32 × Nat × pI × pJ := allR c 3000 0 (-1, 1, rjI K c a, fdJ (rjA K c a) JK 0)
theorem j_init {I K : pI} {J JK : pJ} {c a : Nat} (hc : c ≤ 3) (ha : a ≤ 3) (hG : GRel I K) (hcK : K 64 2 = nI c) : SA (fun _ => none) c 0 (0, 1, stI I J c a, stJ I J c a) (-1, 1, rjI K c a, fdJ (rjA K c a) JK 0) :=
  ⟨rfl, Or.inl ⟨rfl, rfl, init_row hc ha hG hcK⟩⟩
theorem j_end {I K : pI} {J JK : pJ} {c a : Nat} (hc : c ≤ 3) (ha : a ≤ 3) (hG : GRel I K) (hcK : K 64 2 = nI c) : ∃ to, JEnd to c (jX I J c a) (kY K JK c a) := by
  have h := j_init (I := I) (J := J) (JK := JK) hc ha hG hcK
  obtain ⟨to, s', hS, hs'⟩ := sim_all2 hc 3000 0 _ _ _ rfl (Nat.zero_le _) h
  have hle := allC_le hc 3000 0 _ _ _ h
  refine ⟨to, hle, hS.1, ?_⟩
  rcases hS.2 with ⟨h1, h2, h3⟩ | h1
  · have e := hs' h1
    subst e
    exact Or.inl ⟨h1, h2, h3⟩
  · exact Or.inr h1
set_option maxRecDepth 100000 in
set_option maxHeartbeats 4000000 in
theorem c_decide {c a : Nat} {to0 to : Nat → Option Nat} {y0 y : Int32 × Nat × pI × pJ} (I : pI) (J : pJ) (hc : c ≤ 3) (h0 : SA to0 c 0 (0, 1, stI I J c a, stJ I J c a) y0) (hE : JEnd to c (jX I J c a) y) : pMet yX3_decide (pws yX3_decide cX3_decide 7 (some .int)) { frames := 5, cells := 0, slots := 0, locals := 124 } [.ref 48, .ref 1, .int (nI c), .int (nI a)] 84 I J pRs (pOi (CJ I J c a to)) := by
  refine pMet_of (by decide) (Nat.le_of_ble_eq_true rfl) ?_
  refine pw_aload_n dX3_decide_0 rfl ?_
  refine pw_iload_n dX3_decide_1 rfl ?_
  refine pw_iload_n dX3_decide_2 rfl ?_
  refine pw_cVv (ci := 3) (y := yX3_start) (cc := cX3_start) (nL := 3) (ret := none) (rm := { frames := 4, cells := 0, slots := 0, locals := 88 }) dX3_decide_3 (c_start _ _ hc) w_X3_51 rfl (by decide) rfl ⟨by decide, by decide⟩ (by decide) (by decide) rfl (Nat.le_of_ble_eq_true rfl) (fun I3 J3 q3 => ?_)
  obtain ⟨rfl, rfl⟩ := rvv q3
  refine pw_iconst (v := 0) dX3_decide_6 (by decide) ?_
  refine pw_istore dX3_decide_7 (by decide) ?_
  refine pw_iconst (v := 0) dX3_decide_9 (by decide) ?_
  refine pw_istore dX3_decide_10 (by decide) ?_
  refine pw_loc (L' := [(0, .ref 48), (1, .ref 1), (2, .int (nI c)), (4, .int 0), (5, .int (nI 0))]) rfl ?_
  refine l_dec hc _ 3000 0 _ (0, 1, stI I J c a, stJ I J c a) _ rfl h0 ?_
  obtain ⟨f1, f2, f3⟩ := jX_FC (I := I) (J := J) (a := a) hc
  unfold CJ
  rw [show allC c 3000 0 (0, 1, stI I J c a, stJ I J c a) = jX I J c a from rfl]
  revert hE f1 f2 f3
  generalize jX I J c a = x
  intro hE f1 f2 f3
  obtain ⟨hpos, -, hE⟩ := hE
  rcases hE with ⟨h1, -, hR⟩ | ⟨⟨h1, -⟩ | ⟨h1, -⟩, hT⟩
  · refine pw_iload dX3_decide_71 rfl ?_
    refine pw_iconst (v := 1) dX3_decide_73 (by decide) ?_
    refine pw_icmp_ne (tgt := 84) dX3_decide_74 (by decide) (fun _ => ?_) (fun z => absurd z (by rw [h1]; decide))
    refine pw_iload dX3_decide_84 rfl ?_
    refine pw_if_ne (tgt := 99) dX3_decide_86 (by decide) (fun z => absurd h1 z) (fun _ => ?_)
    refine pw_aload_n dX3_decide_89 rfl ?_
    refine pw_cVi (ci := 3) (y := yX3_allCanEnd) (cc := cX3_allCanEnd) (nL := 4) (ret := (some .boolean)) (rm := { frames := 1, cells := 0, slots := 0, locals := 24 }) dX3_decide_90 (c_allCanEnd _ _ hc hR) w_X3_66 rfl (by decide) rfl ⟨by decide, by decide⟩ (by decide) (by decide) rfl (Nat.le_of_ble_eq_true rfl) (fun x90 I90 J90 q90 => ?_)
    have k4 := q90.2.2
    rw [k4]
    refine pw_if_ne (tgt := 99) dX3_decide_93 (by decide) (fun h93 => ?_) (fun h93 => ?_)
    · refine pw_iload dX3_decide_99 rfl ?_
      refine pw_iret dX3_decide_101 rfl rfl (by decide) (by decide) ?_
      have hall := (show _ from q90.1.resolve_right (fun z => h93 z.1)).2
      have eL : jL x = [] := by unfold jL; rw [if_neg (by rw [h1]; decide)]
      obtain ⟨-, k3, -⟩ := q90
      refine ⟨_, rfl, rfl, rfl, fun b k hb => ?_, f3, ?_, ?_, ?_, Or.inr (Or.inr ⟨by rw [h1]; decide, by rw [h1]; decide, Or.inl ⟨h1, hall⟩⟩)⟩
      · rw [k3 b k (by omega) (by omega) (by omega)]; exact f1 b k (by omega)
      · rw [k3 48 2 (by decide) (by decide) (by decide)]; exact hR.1.2.2.1.2.1
      · rw [eL]; exact (k3 48 1 (by decide) (by decide) (by decide)).trans f2
      · rw [eL]; intro j hj; exact absurd hj (Nat.not_lt_zero _)
      
    · refine pw_iconst (v := 2) dX3_decide_96 (by decide) ?_
      refine pw_istore dX3_decide_97 (by decide) ?_
      refine pw_iload dX3_decide_99 rfl ?_
      refine pw_iret dX3_decide_101 rfl rfl (by decide) (by decide) ?_
      have hall : ¬ ∀ s, s < x.2.1 → CE (fun t => orL x.2.2.2 t c 0 0 = 0) to s := (q90.1.resolve_left (fun z => absurd h93 (by rw [z.1]; decide))).2
      have eL : jL x = [] := by unfold jL; rw [if_neg (by rw [h1]; decide)]
      obtain ⟨-, k3, -⟩ := q90
      refine ⟨_, rfl, rfl, rfl, fun b k hb => ?_, f3, ?_, ?_, ?_, Or.inr (Or.inr ⟨by rw [h1]; decide, by rw [h1]; decide, Or.inr ⟨rfl, hall⟩⟩)⟩
      · rw [k3 b k (by omega) (by omega) (by omega)]; exact f1 b k (by omega)
      · rw [k3 48 2 (by decide) (by decide) (by decide)]; exact hR.1.2.2.1.2.1
      · rw [eL]; exact (k3 48 1 (by decide) (by decide) (by decide)).trans f2
      · rw [eL]; intro j hj; exact absurd hj (Nat.not_lt_zero _)
      
  · refine pw_iload dX3_decide_71 rfl ?_
    refine pw_iconst (v := 1) dX3_decide_73 (by decide) ?_
    refine pw_icmp_ne (tgt := 84) dX3_decide_74 (by decide) (fun z => absurd h1 z) (fun _ => ?_)
    refine pw_aload_n dX3_decide_77 rfl ?_
    refine pw_cVv (ci := 3) (y := yX3_keepTrail) (cc := cX3_keepTrail) (nL := 4) (ret := none) (rm := { frames := 0, cells := 0, slots := 0, locals := 0 }) dX3_decide_78 (c_keepTrail (f := x.2.1) _ _ hpos hT.1 hT.2.1 (JF.C hT.1 hT.2.2.2).1) w_X3_63 rfl (by decide) rfl ⟨by decide, by decide⟩ (by decide) (by decide) rfl (Nat.le_of_ble_eq_true rfl) (fun I78 J78 q78 => ?_)
    obtain ⟨k1, k2, k3, k4⟩ := q78
    rw [k4]
    refine pw_goto (tgt := 99) dX3_decide_81 (by decide) ?_
    refine pw_iload dX3_decide_99 rfl ?_
    refine pw_iret dX3_decide_101 rfl rfl (by decide) (by decide) ?_
    have eL : jL x = (pth x.2.2.1 59 3 x.2.1 (x.2.1 - 1)) := by unfold jL; rw [if_pos h1]
    refine ⟨_, rfl, rfl, rfl, fun b k hb => ?_, f3, ?_, ?_, ?_, Or.inl ⟨h1, h1⟩⟩
    · rw [k3 b k (by omega) (by omega)]; exact f1 b k (by omega)
    · rw [k3 48 2 (by decide) (by decide)]; exact hT.2.1
    · rw [eL]; exact k1
    · rw [eL]; exact k2
  · refine pw_iload dX3_decide_71 rfl ?_
    refine pw_iconst (v := 1) dX3_decide_73 (by decide) ?_
    refine pw_icmp_ne (tgt := 84) dX3_decide_74 (by decide) (fun _ => ?_) (fun z => absurd z (by rw [h1]; decide))
    refine pw_iload dX3_decide_84 rfl ?_
    refine pw_if_ne (tgt := 99) dX3_decide_86 (by decide) (fun _ => ?_) (fun z => absurd z (by rw [h1]; decide))
    refine pw_iload dX3_decide_99 rfl ?_
    refine pw_iret dX3_decide_101 rfl rfl (by decide) (by decide) ?_
    have eL : jL x = [] := by unfold jL; rw [if_neg (by rw [h1]; decide)]
    refine ⟨_, rfl, rfl, rfl, fun b k hb => f1 b k (by omega), f3, hT.2.1, ?_, ?_, Or.inr (Or.inl ⟨h1, h1⟩)⟩
    · rw [eL]; exact f2
    · rw [eL]; intro j hj; exact absurd hj (Nat.not_lt_zero _)
    
set_option maxRecDepth 100000 in
set_option maxHeartbeats 4000000 in
theorem c_judge {c a : Nat} {to0 to : Nat → Option Nat} {y0 y : Int32 × Nat × pI × pJ} (I : pI) (J : pJ) (ha1 : 1 ≤ a) (ha : a ≤ 3) (hc : c ≤ 3) (hI : I 43 1 = nI c) (h0 : SA to0 c 0 (0, 1, stI I J c a, stJ I J c a) y0) (hE : JEnd to c (jX I J c a) y) : pMet yX5_judge (pws yX5_judge cX5_judge 2 (some .int)) { frames := 6, cells := 1, slots := 6, locals := 150 } [.ref 0, .int (nI a)] 84 I J pRs (pOi (CJ I J c a to)) := by
  refine pMet_of (by decide) (Nat.le_of_ble_eq_true rfl) ?_
  refine pw_iload_n dX5_judge_0 rfl ?_
  refine pw_iconst (v := 1) dX5_judge_1 (by decide) ?_
  refine pw_icmp_lt (tgt := 10) dX5_judge_2 (by decide) (fun z => absurd ((nI_ltI (a := a) (b := 1) (by omega) (by decide)).mp z) (by omega)) (fun _ => ?_)
  refine pw_iload_n dX5_judge_5 rfl ?_
  refine pw_iconst (v := 3) dX5_judge_6 (by decide) ?_
  refine pw_icmp_le (tgt := 20) dX5_judge_7 (by decide) (fun _ => ?_) (fun z => absurd (nI_le (a := a) (b := 3) (by omega) (by decide)) z)
  refine pw_aload_n dX5_judge_20 rfl ?_
  refine pw_getr dX5_judge_21 fl_X5_26 rfl rfl (by decide) (by decide) rfl ?_
  refine pw_aload_n dX5_judge_24 rfl ?_
  refine pw_getr dX5_judge_25 fl_X5_10 rfl rfl (by decide) (by decide) rfl ?_
  refine pw_aload_n dX5_judge_28 rfl ?_
  refine pw_getr dX5_judge_29 fl_X5_19 rfl rfl (by decide) (by decide) rfl ?_
  refine pw_geti dX5_judge_32 fl_X5_89 rfl rfl (by decide) (by decide) ?_
  rw [hI]
  refine pw_iload_n dX5_judge_35 rfl ?_
  refine pw_cVi (ci := 3) (y := yX3_decide) (cc := cX3_decide) (nL := 7) (ret := (some .int)) (rm := { frames := 5, cells := 0, slots := 0, locals := 124 }) dX5_judge_36 (c_decide _ _ hc h0 hE) w_X5_147 rfl (by decide) rfl ⟨by decide, by decide⟩ (by decide) (by decide) rfl (Nat.le_of_ble_eq_true rfl) (fun x36 I36 J36 q36 => ?_)
  refine pw_iret dX5_judge_39 rfl rfl (by decide) (by decide) ?_
  exact ⟨_, rfl, rfl, rfl, q36⟩
set_option maxRecDepth 100000 in
set_option maxHeartbeats 4000000 in
theorem c_judge_x (x : Int32) (I : pI) (J : pJ) (hx : ¬ (1 ≤ x ∧ x ≤ 3)) : pMet yX5_judge (pws yX5_judge cX5_judge 2 (some .int)) { frames := 6, cells := 1, slots := 6, locals := 150 } [.ref 0, .int x] 84 I J pRs (pOx eA (fun I' J' => I' = I ∧ J' = J)) := by
  refine pMet_of (by decide) (Nat.le_of_ble_eq_true rfl) ?_
  refine pw_iload_n dX5_judge_0 rfl ?_
  refine pw_iconst (v := 1) dX5_judge_1 (by decide) ?_
  refine pw_icmp_lt (tgt := 10) dX5_judge_2 (by decide) (fun h2 => ?_) (fun h2 => ?_)
  · refine pw_throw (k := 0) (E := "java/lang/IllegalArgumentException") (tx := tx_145) rfl wt_145 rfl rfl dX5_judge_10 dX5_judge_13 dX5_judge_14 dX5_judge_16 dX5_judge_19 (by decide) (by decide) (by decide) (by decide) ?_
    exact ⟨rfl, rfl, rfl, rfl, rfl⟩
  · refine pw_iload_n dX5_judge_5 rfl ?_
    refine pw_iconst (v := 3) dX5_judge_6 (by decide) ?_
    refine pw_icmp_le (tgt := 20) dX5_judge_7 (by decide) (fun h7 => ?_) (fun h7 => ?_)
    · exact absurd ⟨Int32.not_lt.mp h2, h7⟩ hx
    · refine pw_throw (k := 0) (E := "java/lang/IllegalArgumentException") (tx := tx_145) rfl wt_145 rfl rfl dX5_judge_10 dX5_judge_13 dX5_judge_14 dX5_judge_16 dX5_judge_19 (by decide) (by decide) (by decide) (by decide) ?_
      exact ⟨rfl, rfl, rfl, rfl, rfl⟩
def kL (y : Int32 × Nat × pI × pJ) : List Nat := if y.1 = 1 then pth y.2.2.1 78 4 y.2.1 (y.2.1 - 1) else []
def RJ (K : pI) (JK : pJ) (c a : Nat) (to : Nat → Option Nat) (JC : pJ) (r : Int32) (K' : pI) (J' : pJ) : Prop :=
  FR (rjI K c a) JK (fun b k => if b = 82 then rjI K c a b k else if b = 64 ∧ k = 21 then rjI K c a b k else K' b k) J' ∧ K' 64 12 = nI (kY K JK c a).2.1 ∧ K' 64 21 = nI (kL (kY K JK c a)).length ∧ (∀ j, j < (kL (kY K JK c a)).length → K' 82 j = nI ((kL (kY K JK c a)).getD j 0)) ∧
  jV (∀ s, s < (kY K JK c a).2.1 → CE (fun t => orL JC t c 0 0 = 0) to s) (kY K JK c a).1 r
theorem kY_FR {I K : pI} {J JK : pJ} {c a : Nat} (hc : c ≤ 3) (ha : a ≤ 3) (hG : GRel I K) (hcK : K 64 2 = nI c) : FR (rjI K c a) JK (kY K JK c a).2.2.1 (kY K JK c a).2.2.2 := by
  refine FR.all hc 3000 0 _ _ _ (j_init (I := I) (J := J) (JK := JK) hc ha hG hcK) ⟨fun _ _ _ => rfl, fun _ _ => rfl, fun _ _ => rfl, fun _ _ _ _ => rfl, fun _ _ => rfl, fun b k hb => ?_⟩
  show fdJ (rjA K c a) JK 0 b k = _
  unfold fdJ; rw [upJ_a (by omega), upJ_a (by omega), upJ_a (by omega)]
abbrev m_X6_judge : pT := (yX6_judge.cls, cX6_judge, 4, (some .int), { frames := 5, cells := 0, slots := 0, locals := 120 }, [], none)
theorem SA.foundR {to : Nat → Option Nat} {c s : Nat} {x y : Int32 × Nat × pI × pJ} (h : SA to c s x y) : y.2.1 ≤ 3000 ∧ y.2.2.1 64 12 = nI y.2.1 := by
  rcases h.2 with ⟨-, -, hJ⟩ | ⟨-, hT⟩
  · rw [← h.1]; exact ⟨hJ.1.2.2.1.1, hJ.1.2.2.1.2.2⟩
  · rw [← h.1]; exact ⟨hT.1, hT.2.2.1⟩
set_option maxRecDepth 100000 in
set_option maxHeartbeats 4000000 in
theorem l_j3 {c : Nat} (hc : c ≤ 3) (Q : pQ) : ∀ (m s : Nat) (to : Nat → Option Nat) (x y : Int32 × Nat × pI × pJ), s + m = 3000 → SA to c s x y → PW m_X6_judge Q 135 [(0, .ref 64), (2, .int (allR c m s y).1)] [] 84 (allR c m s y).2.2.1 (allR c m s y).2.2.2 pRs 0 0 → PW m_X6_judge Q 111 [(0, .ref 64), (2, .int y.1), (3, .int (nI s))] [] 84 y.2.2.1 y.2.2.2 pRs 0 0 := by
  intro m
  induction m with
  | zero =>
    intro s to x y hsm h hK
    rw [allR] at hK
    obtain ⟨hf3, hfI⟩ := h.foundR
    refine pw_iload_n dX6_judge_111 rfl ?_
    refine pw_aload_n dX6_judge_112 rfl ?_
    refine pw_geti dX6_judge_113 fl_X6_171 rfl rfl (by decide) (by decide) ?_
    rw [hfI]
    refine pw_icmp_ge (tgt := 135) dX6_judge_116 (by decide) (fun h116 => ?_) (fun h116 => ?_)
    · refine pw_loc (L' := [(0, .ref 64), (2, .int y.1)]) rfl ?_
      exact hK
    · exact absurd (nI_le (a := y.2.1) (b := s) (by omega) (by omega)) h116
  | succ m ih =>
    intro s to x y hsm h hK
    obtain ⟨hf3, hfI⟩ := h.foundR
    refine pw_iload_n dX6_judge_111 rfl ?_
    refine pw_aload_n dX6_judge_112 rfl ?_
    refine pw_geti dX6_judge_113 fl_X6_171 rfl rfl (by decide) (by decide) ?_
    rw [hfI]
    refine pw_icmp_ge (tgt := 135) dX6_judge_116 (by decide) (fun h116 => ?_) (fun h116 => ?_)
    · rw [allR, if_neg (fun z => absurd ((nI_leI (a := y.2.1) (b := s) (by omega) (by omega)).mp h116) (by omega))] at hK
      refine pw_loc (L' := [(0, .ref 64), (2, .int y.1)]) rfl ?_
      exact hK
    · refine pw_iload_n dX6_judge_119 rfl ?_
      refine pw_if_ge (tgt := 135) dX6_judge_120 (by decide) (fun h120 => ?_) (fun h120 => ?_)
      · rw [allR, if_neg (fun z => absurd h120 (by rw [z.2]; decide))] at hK
        refine pw_loc (L' := [(0, .ref 64), (2, .int y.1)]) rfl ?_
        exact hK
      · have hsf : s < y.2.1 := Nat.lt_of_not_le (fun z => h116 (nI_le z (by omega)))
        obtain ⟨hy, hx0, hJ⟩ : y.1 = -1 ∧ x.1 = 0 ∧ JRow to x.2.2.1 x.2.2.2 y.2.2.1 y.2.2.2 c y.2.1 s := by
          rcases h.2 with ⟨hx, hy, hJ⟩ | ⟨hx, -⟩
          · rw [h.1] at hJ; exact ⟨hy, hx, hJ⟩
          · rcases hx with ⟨-, hx⟩ | ⟨-, hx⟩ <;> (rw [hx] at h120; exact absurd (show _ from h120) (by decide))
        rw [allR, if_pos ⟨hsf, hy⟩] at hK
        obtain ⟨-, to2, g2, -⟩ := h.row hc (by rw [h.1]; exact hsf) hx0
        refine pw_aload_n dX6_judge_123 rfl ?_
        refine pw_iload_n dX6_judge_124 rfl ?_
        refine pw_cVi (ci := 6) (y := yX6_expand) (cc := cX6_expand) (nL := 4) (ret := (some .int)) (rm := { frames := 4, cells := 0, slots := 0, locals := 97 }) dX6_judge_125 (r_expand _ _ hc hsf hf3 hJ) w_X6_201 rfl (by decide) rfl ⟨by decide, by decide⟩ (by decide) (by decide) rfl (Nat.le_of_ble_eq_true rfl) (fun x125 I125 J125 q125 => ?_)
        obtain ⟨rfl, rfl, rfl⟩ := rvq q125
        refine pw_istore_n dX6_judge_128 (by decide) ?_
        refine pw_iinc (v := nI (s + 1)) dX6_judge_129 rfl (by rw [nI_succ]; rfl) (by decide) ?_
        refine pw_goto (tgt := 111) dX6_judge_132 (by decide) ?_
        have e9 : exRow (-1, y.2.1, y.2.2.1, y.2.2.2) c s = exRow y c s := rfl
        rw [e9]
        refine pw_loc (L' := [(0, .ref 64), (2, .int (exRow y c s).1), (3, .int (nI (s + 1)))]) rfl ?_
        exact ih (s + 1) to2 _ _ (by omega) g2 hK
set_option maxRecDepth 100000 in
set_option maxHeartbeats 4000000 in
theorem l_j2 {c a : Nat} (hc : c ≤ 3) (J : pJ) (Q : pQ) : ∀ (m k : Nat) (I : pI), k + m = 3 → I 64 2 = nI c → PW m_X6_judge Q 87 [(0, .ref 64)] [] 84 (rpL c a m k I) J pRs 0 0 → PW m_X6_judge Q 50 [(0, .ref 64), (1, .int (nI a)), (2, .int (nI k))] [] 84 I J pRs 0 0 := by
  intro m
  induction m with
  | zero =>
    intro k I hkm hI hK
    rw [rpL] at hK
    refine pw_iload_n dX6_judge_50 rfl ?_
    refine pw_iconst (v := 3) dX6_judge_51 (by decide) ?_
    refine pw_icmp_ge (tgt := 87) dX6_judge_52 (by decide) (fun h52 => ?_) (fun h52 => ?_)
    · refine pw_loc (L' := [(0, .ref 64)]) rfl ?_
      exact hK
    · exact absurd (nI_le (a := 3) (b := k) (by omega) (by omega)) h52
  | succ m ih =>
    intro k I hkm hI hK
    refine pw_iload_n dX6_judge_50 rfl ?_
    refine pw_iconst (v := 3) dX6_judge_51 (by decide) ?_
    refine pw_icmp_ge (tgt := 87) dX6_judge_52 (by decide) (fun h52 => ?_) (fun h52 => ?_)
    · exact absurd ((nI_leI (a := 3) (b := k) (by decide) (by omega)).mp h52) (by omega)
    · refine pw_aload_n dX6_judge_55 rfl ?_
      refine pw_iconst (v := 3) dX6_judge_56 (by decide) ?_
      refine pw_iload_n dX6_judge_57 rfl ?_
      refine pw_iadd dX6_judge_58 ?_
      rw [ixA 3 k 3 (by decide)]
      refine pw_cVv (ci := 6) (y := yX6_rest) (cc := cX6_rest) (nL := 3) (ret := none) (rm := { frames := 0, cells := 0, slots := 0, locals := 0 }) dX6_judge_59 (r_rest (p := 3 + k) _ _ (by omega)) w_X6_113 rfl (by decide) rfl ⟨by decide, by decide⟩ (by decide) (by decide) rfl (Nat.le_of_ble_eq_true rfl) (fun I59 J59 q59 => ?_)
      obtain ⟨rfl, rfl⟩ := rvv q59
      refine pw_aload_n dX6_judge_62 rfl ?_
      refine pw_getr dX6_judge_63 fl_X6_67 rfl rfl (by decide) (by decide) rfl ?_
      refine pw_iload_n dX6_judge_66 rfl ?_
      refine pw_iload_n dX6_judge_67 rfl ?_
      refine pw_aload_n dX6_judge_68 rfl ?_
      refine pw_geti dX6_judge_69 fl_X6_13 rfl rfl (by decide) (by decide) ?_
      rw [show reI I (3 + k) 64 2 = nI c by rw [reI_o (by decide) (by decide) (by decide)]; exact hI]
      refine pw_icmp_ge (tgt := 79) dX6_judge_72 (by decide) (fun h72 => ?_) (fun h72 => ?_)
      · refine pw_iconst (v := 0) dX6_judge_79 (by decide) ?_
        refine pw_iast dX6_judge_80 rfl (by decide) (by decide) (vp_in_nI (by omega) (by decide)) ?_
        rw [nI_clamp (show k < 2 ^ 31 by omega)]
        refine pw_iinc (v := nI (k + 1)) dX6_judge_81 rfl (by rw [nI_succ]; rfl) (by decide) ?_
        refine pw_goto (tgt := 50) dX6_judge_84 (by decide) ?_
        refine pw_loc (L' := [(0, .ref 64), (1, .int (nI a)), (2, .int (nI (k + 1)))]) rfl ?_
        refine ih (k + 1) _ (by omega) ?_ (by rw [rpL, if_neg (Nat.not_lt.mpr ((nI_leI (a := c) (b := k) (by omega) (by omega)).mp h72))] at hK; exact hK)
        rw [upI_a (by decide), reI_o (by decide) (by decide) (by decide)]; exact hI
      · refine pw_iload_n dX6_judge_75 rfl ?_
        refine pw_goto (tgt := 80) dX6_judge_76 (by decide) ?_
        refine pw_iast dX6_judge_80 rfl (by decide) (by decide) (vp_in_nI (by omega) (by decide)) ?_
        rw [nI_clamp (show k < 2 ^ 31 by omega)]
        refine pw_iinc (v := nI (k + 1)) dX6_judge_81 rfl (by rw [nI_succ]; rfl) (by decide) ?_
        refine pw_goto (tgt := 50) dX6_judge_84 (by decide) ?_
        refine pw_loc (L' := [(0, .ref 64), (1, .int (nI a)), (2, .int (nI (k + 1)))]) rfl ?_
        refine ih (k + 1) _ (by omega) ?_ (by rw [rpL, if_pos (Nat.lt_of_not_le (fun z => h72 (nI_le (a := c) (b := k) z (by omega))))] at hK; exact hK)
        rw [upI_a (by decide), reI_o (by decide) (by decide) (by decide)]; exact hI
set_option maxRecDepth 100000 in
set_option maxHeartbeats 4000000 in
theorem l_j1 {a : Nat} (J : pJ) (Q : pQ) : ∀ (m k : Nat) (I : pI), k + m = 8 → PW m_X6_judge Q 48 [(0, .ref 64), (1, .int (nI a))] [] 84 (rwL m k I) J pRs 0 0 → PW m_X6_judge Q 26 [(0, .ref 64), (1, .int (nI a)), (2, .int (nI k))] [] 84 I J pRs 0 0 := by
  intro m
  induction m with
  | zero =>
    intro k I hkm hK
    rw [rwL] at hK
    refine pw_iload_n dX6_judge_26 rfl ?_
    refine pw_bipush (v := 8) dX6_judge_27 (by decide) ?_
    refine pw_icmp_ge (tgt := 48) dX6_judge_29 (by decide) (fun h29 => ?_) (fun h29 => ?_)
    · refine pw_loc (L' := [(0, .ref 64), (1, .int (nI a))]) rfl ?_
      exact hK
    · exact absurd (nI_le (a := 8) (b := k) (by omega) (by omega)) h29
  | succ m ih =>
    intro k I hkm hK
    refine pw_iload_n dX6_judge_26 rfl ?_
    refine pw_bipush (v := 8) dX6_judge_27 (by decide) ?_
    refine pw_icmp_ge (tgt := 48) dX6_judge_29 (by decide) (fun h29 => ?_) (fun h29 => ?_)
    · exact absurd ((nI_leI (a := 8) (b := k) (by decide) (by omega)).mp h29) (by omega)
    · refine pw_aload_n dX6_judge_32 rfl ?_
      refine pw_getr dX6_judge_33 fl_X6_23 rfl rfl (by decide) (by decide) rfl ?_
      refine pw_bipush (v := 8) dX6_judge_36 (by decide) ?_
      refine pw_iload_n dX6_judge_38 rfl ?_
      refine pw_iadd dX6_judge_39 ?_
      rw [ixA 8 k 8 (by decide)]
      refine pw_iconst (v := 0) dX6_judge_40 (by decide) ?_
      refine pw_iast dX6_judge_41 rfl (by decide) (by decide) (vp_in_nI (by omega) (by decide)) ?_
      rw [nI_clamp (show 8 + k < 2 ^ 31 by omega)]
      refine pw_iinc (v := nI (k + 1)) dX6_judge_42 rfl (by rw [nI_succ]; rfl) (by decide) ?_
      refine pw_goto (tgt := 26) dX6_judge_45 (by decide) ?_
      refine pw_loc (L' := [(0, .ref 64), (1, .int (nI a)), (2, .int (nI (k + 1)))]) rfl ?_
      exact ih (k + 1) _ (by omega) hK
set_option maxRecDepth 100000 in
set_option maxHeartbeats 4000000 in
theorem r_judge {c a : Nat} {to : Nat → Option Nat} {C : pI} {JC0 JC : pJ} {x : Int32 × Nat × pI × pJ} (I : pI) (J : pJ) (hc : c ≤ 3) (ha1 : 1 ≤ a) (ha : a ≤ 3) (hG : GRel C I) (hcK : I 64 2 = nI c) (hJC : x.2.2.2 = JC) (hE : JEnd to c x (kY I J c a)) : pMet yX6_judge (pws yX6_judge cX6_judge 4 (some .int)) { frames := 5, cells := 0, slots := 0, locals := 120 } [.ref 64, .int (nI a)] 84 I J pRs (pOi (RJ I J c a to JC)) := by
  subst hJC
  refine pMet_of (by decide) (Nat.le_of_ble_eq_true rfl) ?_
  refine pw_aload_n dX6_judge_0 rfl ?_
  refine pw_iload_n dX6_judge_1 rfl ?_
  refine pw_iconst (v := 1) dX6_judge_2 (by decide) ?_
  refine pw_iconst (v := 3) dX6_judge_3 (by decide) ?_
  refine pw_cSi (y := yX6_in) (cc := cX6_in) (nL := 3) (ret := (some .boolean)) (rm := { frames := 0, cells := 0, slots := 0, locals := 0 }) dX6_judge_4 (r_in _ _ _ _ _) w_X6_102 rfl ⟨by decide, by decide⟩ (by decide) (by decide) rfl (Nat.le_of_ble_eq_true rfl) (fun x4 I4 J4 q4 => ?_)
  obtain ⟨rfl, rfl, rfl⟩ := rvq q4
  rw [show isIn (nI a) 1 3 = 1 from in_t ⟨nI_le (a := 1) (b := a) ha1 (by omega), nI_le (a := a) (b := 3) ha (by decide)⟩]
  refine pw_if_ne (tgt := 14) dX6_judge_7 (by decide) (fun _ => ?_) (fun z => absurd z (by decide))
  refine pw_iconst (v := 0) dX6_judge_14 (by decide) ?_
  refine pw_iconst (v := 0) dX6_judge_15 (by decide) ?_
  refine pw_cVi (ci := 6) (y := yX6_refuse) (cc := cX6_refuse) (nL := 3) (ret := (some .boolean)) (rm := { frames := 0, cells := 0, slots := 0, locals := 0 }) dX6_judge_16 (r_refuse 0 0 _ _) w_X6_106 rfl (by decide) rfl ⟨by decide, by decide⟩ (by decide) (by decide) rfl (Nat.le_of_ble_eq_true rfl) (fun x16 I16 J16 q16 => ?_)
  obtain ⟨rfl, rfl, rfl⟩ := rvq q16
  rw [t00]
  refine pw_if_eq (tgt := 24) dX6_judge_19 (by decide) (fun _ => ?_) (fun z => absurd z (by decide))
  refine pw_iconst (v := 0) dX6_judge_24 (by decide) ?_
  refine pw_istore_n dX6_judge_25 (by decide) ?_
  refine pw_loc (L' := [(0, .ref 64), (1, .int (nI a)), (2, .int (nI 0))]) rfl ?_
  refine l_j1 J _ 8 0 _ rfl ?_
  refine pw_iconst (v := 0) dX6_judge_48 (by decide) ?_
  refine pw_istore_n dX6_judge_49 (by decide) ?_
  refine pw_loc (L' := [(0, .ref 64), (1, .int (nI a)), (2, .int (nI 0))]) rfl ?_
  refine l_j2 (c := c) (a := a) hc J _ 3 0 _ rfl (by rw [rwL_o _ _ _ (by omega), upI_k (by decide)]; exact hcK) ?_
  refine pw_aload_n dX6_judge_87 rfl ?_
  refine pw_iconst (v := 0) dX6_judge_88 (by decide) ?_
  refine pw_puti dX6_judge_89 fl_X6_171 rfl rfl rfl rfl rfl (by decide) (by decide) ?_
  refine pw_aload_n dX6_judge_92 rfl ?_
  refine pw_iconst (v := 0) dX6_judge_93 (by decide) ?_
  refine pw_puti dX6_judge_94 fl_X6_198 rfl rfl rfl rfl rfl (by decide) (by decide) ?_
  rw [show upI (upI (rpL c a 3 0 (rwL 8 0 (upI I 64 0 0))) 64 12 0) 64 21 0 = rjA I c a from rfl]
  refine pw_aload_n dX6_judge_97 rfl ?_
  refine pw_aload_n dX6_judge_98 rfl ?_
  refine pw_cVi (ci := 6) (y := yX6_find) (cc := cX6_find) (nL := 9) (ret := (some .int)) (rm := { frames := 2, cells := 0, slots := 0, locals := 48 }) dX6_judge_99 (r_find_n (f := 0) _ _ (by decide) (rjA_0.2.1.trans rfl) rfl) w_X6_180 rfl (by decide) rfl ⟨by decide, by decide⟩ (by decide) (by decide) rfl (Nat.le_of_ble_eq_true rfl) (fun x99 I99 J99 q99 => ?_)
  obtain ⟨rfl, rfl, rfl⟩ := rvq q99
  refine pw_iconst (v := 1) dX6_judge_102 (by decide) ?_
  refine pw_iadd dX6_judge_103 ?_
  refine pw_puti dX6_judge_104 fl_X6_171 rfl rfl rfl rfl rfl (by decide) (by decide) ?_
  rw [show upI (fdK (rjA I c a) 0) 64 12 (nI 0 + 1) = rjI I c a from rfl]
  refine pw_iconst (v := (-1)) dX6_judge_107 (by decide) ?_
  refine pw_istore_n dX6_judge_108 (by decide) ?_
  refine pw_iconst (v := 0) dX6_judge_109 (by decide) ?_
  refine pw_istore_n dX6_judge_110 (by decide) ?_
  refine pw_loc (L' := [(0, .ref 64), (2, .int (-1)), (3, .int (nI 0))]) rfl ?_
  refine l_j3 hc _ 3000 0 _ _ (-1, 1, rjI I c a, fdJ (rjA I c a) J 0) rfl (j_init (I := C) (J := JC0) hc ha hG hcK) ?_
  have hF := kY_FR (I := C) (J := JC0) (JK := J) hc ha hG hcK
  have h21 : (kY I J c a).2.2.1 64 21 = 0 := by
    rw [hF.2.1 21 (by decide)]
    unfold rjI fdK
    rw [upI_k (by decide), upI_a (by decide)]; exact rjA_0.2.2
  unfold RJ
  rw [show allR c 3000 0 (-1, 1, rjI I c a, fdJ (rjA I c a) J 0) = kY I J c a from rfl]
  revert hE hF h21
  generalize kY I J c a = y
  intro hE hF h21
  obtain ⟨hpos, heq, hE⟩ := hE
  rw [heq] at hpos
  try rw [heq] at hE
  rcases hE with ⟨-, h1, hR⟩ | ⟨⟨-, h1⟩ | ⟨-, h1⟩, hT⟩
  · refine pw_iload_n dX6_judge_135 rfl ?_
    refine pw_iconst (v := 1) dX6_judge_136 (by decide) ?_
    refine pw_icmp_ne (tgt := 144) dX6_judge_137 (by decide) (fun _ => ?_) (fun z => absurd z (by rw [h1]; decide))
    refine pw_iload_n dX6_judge_144 rfl ?_
    refine pw_if_le (tgt := 152) dX6_judge_145 (by decide) (fun _ => ?_) (fun z => absurd (show y.1 ≤ 0 by rw [h1]; decide) z)
    refine pw_aload_n dX6_judge_152 rfl ?_
    refine pw_cVi (ci := 6) (y := yX6_allEnd) (cc := cX6_allEnd) (nL := 4) (ret := (some .boolean)) (rm := { frames := 2, cells := 0, slots := 0, locals := 48 }) dX6_judge_153 (r_allEnd (f := y.2.1) _ _ hc hpos hR) w_X6_208 rfl (by decide) rfl ⟨by decide, by decide⟩ (by decide) (by decide) rfl (Nat.le_of_ble_eq_true rfl) (fun x153 I153 J153 q153 => ?_)
    have k4 := q153.2.2
    rw [k4]
    refine pw_if_eq (tgt := 163) dX6_judge_156 (by decide) (fun h156 => ?_) (fun h156 => ?_)
    · refine pw_iconst (v := 2) dX6_judge_163 (by decide) ?_
      refine pw_iret dX6_judge_164 rfl rfl (by decide) (by decide) ?_
      have hall : ¬ ∀ s, s < y.2.1 → CE (fun t => orL x.2.2.2 t c 0 0 = 0) to s := (q153.1.resolve_left (fun z => absurd h156 (by rw [z.1]; decide))).2
      have eL : kL y = [] := by unfold kL; rw [if_neg (by rw [h1]; decide)]
      obtain ⟨-, k3, -⟩ := q153
      refine ⟨_, rfl, rfl, rfl, ?_, ?_, ?_, ?_, Or.inr (Or.inr ⟨by rw [h1]; decide, by rw [h1]; decide, Or.inr ⟨rfl, hall⟩⟩)⟩
      · refine hF.of (fun b k hb hk => ?_) (fun k hk => ?_) (fun k hk => ?_) (fun k hk => ⟨?_, ?_⟩) (fun k hk => ?_) (fun _ _ _ => rfl)
        · by_cases e82 : b = 82
          · subst e82; show (if _ then _ else _) = _; rw [if_pos rfl]; exact (hF.1 82 k (by omega)).symm
          · show (if _ then _ else _) = _
            rw [if_neg e82, if_neg (fun z => absurd z.1 (by omega))]; exact k3 b k (by omega) (by omega) (by omega) (by omega) (by omega)
        · show (if _ then _ else _) = _
          rw [if_neg (by decide)]
          by_cases e21 : k = 21
          · subst e21; rw [if_pos ⟨rfl, rfl⟩]; exact (hF.2.1 21 (by decide)).symm
          · rw [if_neg (fun z => e21 z.2)]; exact k3 64 k (by omega) (by omega) (by omega) (by omega) (by omega)
        · show (if _ then _ else _) = _
          rw [if_neg (by decide), if_neg (fun z => absurd z.1 (by decide))]; exact k3 _ k (by omega) (by omega) (by omega) (by omega) (by omega)
        · show (if _ then _ else _) = _
          rw [if_neg (by decide), if_neg (fun z => absurd z.1 (by decide))]; exact k3 _ k (by omega) (by omega) (by omega) (by omega) (by omega)
        · show (if _ then _ else _) = _
          rw [if_neg (by decide), if_neg (fun z => absurd z.1 (by decide))]; exact k3 _ k (by omega) (by omega) (by omega) (by omega) (by omega)
        · show (if _ then _ else _) = _
          rw [if_neg (by decide), if_neg (fun z => absurd z.1 (by decide))]; exact k3 _ k (by omega) (by omega) (by omega) (by omega) (by omega)
      · rw [k3 64 12 (by decide) (by decide) (by decide) (by decide) (by decide)]; exact hR.1.2.2.1.2.2
      · rw [eL]; exact (k3 64 21 (by decide) (by decide) (by decide) (by decide) (by decide)).trans h21
      · rw [eL]; intro j hj; exact absurd hj (Nat.not_lt_zero _)
      
    · refine pw_iconst (v := 0) dX6_judge_159 (by decide) ?_
      refine pw_goto (tgt := 164) dX6_judge_160 (by decide) ?_
      refine pw_iret dX6_judge_164 rfl rfl (by decide) (by decide) ?_
      have hall : ∀ s, s < y.2.1 → CE (fun t => orL x.2.2.2 t c 0 0 = 0) to s := (q153.1.resolve_right (fun z => h156 z.1)).2
      have eL : kL y = [] := by unfold kL; rw [if_neg (by rw [h1]; decide)]
      obtain ⟨-, k3, -⟩ := q153
      refine ⟨_, rfl, rfl, rfl, ?_, ?_, ?_, ?_, Or.inr (Or.inr ⟨by rw [h1]; decide, by rw [h1]; decide, Or.inl ⟨rfl, hall⟩⟩)⟩
      · refine hF.of (fun b k hb hk => ?_) (fun k hk => ?_) (fun k hk => ?_) (fun k hk => ⟨?_, ?_⟩) (fun k hk => ?_) (fun _ _ _ => rfl)
        · by_cases e82 : b = 82
          · subst e82; show (if _ then _ else _) = _; rw [if_pos rfl]; exact (hF.1 82 k (by omega)).symm
          · show (if _ then _ else _) = _
            rw [if_neg e82, if_neg (fun z => absurd z.1 (by omega))]; exact k3 b k (by omega) (by omega) (by omega) (by omega) (by omega)
        · show (if _ then _ else _) = _
          rw [if_neg (by decide)]
          by_cases e21 : k = 21
          · subst e21; rw [if_pos ⟨rfl, rfl⟩]; exact (hF.2.1 21 (by decide)).symm
          · rw [if_neg (fun z => e21 z.2)]; exact k3 64 k (by omega) (by omega) (by omega) (by omega) (by omega)
        · show (if _ then _ else _) = _
          rw [if_neg (by decide), if_neg (fun z => absurd z.1 (by decide))]; exact k3 _ k (by omega) (by omega) (by omega) (by omega) (by omega)
        · show (if _ then _ else _) = _
          rw [if_neg (by decide), if_neg (fun z => absurd z.1 (by decide))]; exact k3 _ k (by omega) (by omega) (by omega) (by omega) (by omega)
        · show (if _ then _ else _) = _
          rw [if_neg (by decide), if_neg (fun z => absurd z.1 (by decide))]; exact k3 _ k (by omega) (by omega) (by omega) (by omega) (by omega)
        · show (if _ then _ else _) = _
          rw [if_neg (by decide), if_neg (fun z => absurd z.1 (by decide))]; exact k3 _ k (by omega) (by omega) (by omega) (by omega) (by omega)
      · rw [k3 64 12 (by decide) (by decide) (by decide) (by decide) (by decide)]; exact hR.1.2.2.1.2.2
      · rw [eL]; exact (k3 64 21 (by decide) (by decide) (by decide) (by decide) (by decide)).trans h21
      · rw [eL]; intro j hj; exact absurd hj (Nat.not_lt_zero _)
      
  · refine pw_iload_n dX6_judge_135 rfl ?_
    refine pw_iconst (v := 1) dX6_judge_136 (by decide) ?_
    refine pw_icmp_ne (tgt := 144) dX6_judge_137 (by decide) (fun z => absurd h1 z) (fun _ => ?_)
    refine pw_aload_n dX6_judge_140 rfl ?_
    refine pw_cVv (ci := 6) (y := yX6_goBack) (cc := cX6_goBack) (nL := 2) (ret := none) (rm := { frames := 0, cells := 0, slots := 0, locals := 0 }) dX6_judge_141 (r_goBack (f := y.2.1) _ _ hpos hT.1 hT.2.2.1 h21 (JF.C hT.1 hT.2.2.2).2) w_X6_205 rfl (by decide) rfl ⟨by decide, by decide⟩ (by decide) (by decide) rfl (Nat.le_of_ble_eq_true rfl) (fun I141 J141 q141 => ?_)
    obtain ⟨k1, k2, k3, k4⟩ := q141
    rw [k4]
    refine pw_iload_n dX6_judge_144 rfl ?_
    refine pw_if_le (tgt := 152) dX6_judge_145 (by decide) (fun z => absurd z (by rw [h1]; decide)) (fun _ => ?_)
    refine pw_iload_n dX6_judge_148 rfl ?_
    refine pw_goto (tgt := 164) dX6_judge_149 (by decide) ?_
    refine pw_iret dX6_judge_164 rfl rfl (by decide) (by decide) ?_
    have eL : kL y = (pth y.2.2.1 78 4 y.2.1 (y.2.1 - 1)) := by unfold kL; rw [if_pos h1]
    refine ⟨_, rfl, rfl, rfl, ?_, ?_, ?_, ?_, Or.inl ⟨h1, h1⟩⟩
    · refine hF.of (fun b k hb hk => ?_) (fun k hk => ?_) (fun k hk => ?_) (fun k hk => ⟨?_, ?_⟩) (fun k hk => ?_) (fun _ _ _ => rfl)
      · by_cases e82 : b = 82
        · subst e82; show (if _ then _ else _) = _; rw [if_pos rfl]; exact (hF.1 82 k (by omega)).symm
        · show (if _ then _ else _) = _
          rw [if_neg e82, if_neg (fun z => absurd z.1 (by omega))]; exact k3 b k e82 (by omega)
      · show (if _ then _ else _) = _
        rw [if_neg (by decide)]
        by_cases e21 : k = 21
        · subst e21; rw [if_pos ⟨rfl, rfl⟩]; exact (hF.2.1 21 (by decide)).symm
        · rw [if_neg (fun z => e21 z.2)]; exact k3 64 k (by decide) (Or.inr e21)
      · show (if _ then _ else _) = _
        rw [if_neg (by decide), if_neg (fun z => absurd z.1 (by decide))]; exact k3 _ k (by decide) (by omega)
      · show (if _ then _ else _) = _
        rw [if_neg (by decide), if_neg (fun z => absurd z.1 (by decide))]; exact k3 _ k (by decide) (by omega)
      · show (if _ then _ else _) = _
        rw [if_neg (by decide), if_neg (fun z => absurd z.1 (by decide))]; exact k3 _ k (by decide) (by omega)
      · show (if _ then _ else _) = _
        rw [if_neg (by decide), if_neg (fun z => absurd z.1 (by decide))]; exact k3 _ k (by decide) (by omega)
    · rw [k3 64 12 (by decide) (by decide)]; exact hT.2.2.1
    · rw [eL]; exact k1
    · rw [eL]; exact k2
  · refine pw_iload_n dX6_judge_135 rfl ?_
    refine pw_iconst (v := 1) dX6_judge_136 (by decide) ?_
    refine pw_icmp_ne (tgt := 144) dX6_judge_137 (by decide) (fun _ => ?_) (fun z => absurd z (by rw [h1]; decide))
    refine pw_iload_n dX6_judge_144 rfl ?_
    refine pw_if_le (tgt := 152) dX6_judge_145 (by decide) (fun z => absurd z (by rw [h1]; decide)) (fun _ => ?_)
    refine pw_iload_n dX6_judge_148 rfl ?_
    refine pw_goto (tgt := 164) dX6_judge_149 (by decide) ?_
    refine pw_iret dX6_judge_164 rfl rfl (by decide) (by decide) ?_
    have eL : kL y = [] := by unfold kL; rw [if_neg (by rw [h1]; decide)]
    refine ⟨_, rfl, rfl, rfl, ?_, hT.2.2.1, ?_, ?_, Or.inr (Or.inl ⟨h1, h1⟩)⟩
    · refine hF.of (fun b k hb hk => ?_) (fun k hk => ?_) (fun k hk => ?_) (fun k hk => ⟨?_, ?_⟩) (fun k hk => ?_) (fun _ _ _ => rfl)
      · by_cases e82 : b = 82
        · subst e82; show (if _ then _ else _) = _; rw [if_pos rfl]; exact (hF.1 82 k (by omega)).symm
        · show (if _ then _ else _) = _
          rw [if_neg e82, if_neg (fun z => absurd z.1 (by omega))]; try rfl
      · show (if _ then _ else _) = _
        rw [if_neg (by decide)]
        by_cases e21 : k = 21
        · subst e21; rw [if_pos ⟨rfl, rfl⟩]; exact (hF.2.1 21 (by decide)).symm
        · rw [if_neg (fun z => e21 z.2)]; try rfl
      · show (if _ then _ else _) = _
        rw [if_neg (by decide), if_neg (fun z => absurd z.1 (by decide))]; try rfl
      · show (if _ then _ else _) = _
        rw [if_neg (by decide), if_neg (fun z => absurd z.1 (by decide))]; try rfl
      · show (if _ then _ else _) = _
        rw [if_neg (by decide), if_neg (fun z => absurd z.1 (by decide))]; try rfl
      · show (if _ then _ else _) = _
        rw [if_neg (by decide), if_neg (fun z => absurd z.1 (by decide))]; try rfl
    · rw [eL]; exact h21
    · rw [eL]; intro j hj; exact absurd hj (Nat.not_lt_zero _)
    
set_option maxRecDepth 100000 in
set_option maxHeartbeats 4000000 in
theorem r_judge_x (x : Int32) (I : pI) (J : pJ) (hx : ¬ (1 ≤ x ∧ x ≤ 3)) : pMet yX6_judge (pws yX6_judge cX6_judge 4 (some .int)) { frames := 5, cells := 0, slots := 0, locals := 120 } [.ref 64, .int x] 84 I J pRs (pOi (fun r I' J' => r = 0 ∧ I' = upI I 64 0 1 ∧ J' = J)) := by
  refine pMet_of (by decide) (Nat.le_of_ble_eq_true rfl) ?_
  refine pw_aload_n dX6_judge_0 rfl ?_
  refine pw_iload_n dX6_judge_1 rfl ?_
  refine pw_iconst (v := 1) dX6_judge_2 (by decide) ?_
  refine pw_iconst (v := 3) dX6_judge_3 (by decide) ?_
  refine pw_cSi (y := yX6_in) (cc := cX6_in) (nL := 3) (ret := (some .boolean)) (rm := { frames := 0, cells := 0, slots := 0, locals := 0 }) dX6_judge_4 (r_in _ _ _ _ _) w_X6_102 rfl ⟨by decide, by decide⟩ (by decide) (by decide) rfl (Nat.le_of_ble_eq_true rfl) (fun x4 I4 J4 q4 => ?_)
  obtain ⟨rfl, rfl, rfl⟩ := rvq q4
  rw [in_f hx]
  refine pw_if_ne (tgt := 14) dX6_judge_7 (by decide) (fun z => absurd z (by decide)) (fun _ => ?_)
  refine pw_iconst (v := 1) dX6_judge_10 (by decide) ?_
  refine pw_goto (tgt := 15) dX6_judge_11 (by decide) ?_
  refine pw_iconst (v := 0) dX6_judge_15 (by decide) ?_
  refine pw_cVi (ci := 6) (y := yX6_refuse) (cc := cX6_refuse) (nL := 3) (ret := (some .boolean)) (rm := { frames := 0, cells := 0, slots := 0, locals := 0 }) dX6_judge_16 (r_refuse 1 0 _ _) w_X6_106 rfl (by decide) rfl ⟨by decide, by decide⟩ (by decide) (by decide) rfl (Nat.le_of_ble_eq_true rfl) (fun x16 I16 J16 q16 => ?_)
  obtain ⟨rfl, rfl, rfl⟩ := rvq q16
  refine pw_if_eq (tgt := 24) dX6_judge_19 (by decide) (fun z => absurd z (by decide)) (fun _ => ?_)
  refine pw_iconst (v := 0) dX6_judge_22 (by decide) ?_
  refine pw_iret dX6_judge_23 rfl rfl (by decide) (by decide) ?_
  exact ⟨_, rfl, rfl, rfl, rfl, by rw [t10], rfl⟩
