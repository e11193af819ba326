/-! CONSTRUCTORS -/
abbrev RQ (a k : Nat) : Prop := (a = 0 ∧ k < 3) ∨ (a = 1 ∧ k = 0) ∨ (a = 2 ∧ k < 40) ∨ (a = 43 ∧ k = 0) ∨ (a = 44 ∧ k < 3) ∨ (a = 48 ∧ (k = 0 ∨ (3 ≤ k ∧ k ≤ 12))) ∨ (a = 50 ∧ k = 0) ∨ (a = 51 ∧ k < 3) ∨ (a = 64 ∧ ((3 ≤ k ∧ k ≤ 11) ∨ (13 ≤ k ∧ k ≤ 20) ∨ k = 22))
def rlB (a k : Nat) : Bool := decide (RQ a k)
theorem rl_1 : ((List.range 84).all fun a => (List.range 41).all fun k => !((decide ((pS a).1 < 7) && (decide (k < pN (pS a).1) && pRf (pS a).1 k)) || (decide (10 ≤ (pS a).1) && decide (k < (pS a).2))) || rlB a k) = true := by decide +kernel
theorem rl_2 : ((List.range 84).all fun a => decide ((pS a).1 < 7 → pN (pS a).1 ≤ 41) && decide (10 ≤ (pS a).1 → (pS a).2 ≤ 41)) = true := by decide +kernel
theorem RQ_of {a k : Nat} (ha : a < 84) : (((pS a).1 < 7 ∧ k < pN (pS a).1 ∧ pRf (pS a).1 k = true) ∨ (10 ≤ (pS a).1 ∧ k < (pS a).2)) → RQ a k := by
  intro h
  have h2 := List.all_eq_true.mp rl_2 a (List.mem_range.mpr ha)
  simp only [Bool.and_eq_true, decide_eq_true_eq] at h2
  have hk : k < 41 := by
    rcases h with ⟨h7, hk, -⟩ | ⟨h7, hk⟩
    · exact Nat.lt_of_lt_of_le hk (h2.1 h7)
    · exact Nat.lt_of_lt_of_le hk (h2.2 h7)
  have h1 := List.all_eq_true.mp (List.all_eq_true.mp rl_1 a (List.mem_range.mpr ha)) k (List.mem_range.mpr hk)
  rw [Bool.or_eq_true] at h1
  rcases h1 with h1 | h1
  · rw [Bool.not_eq_true'] at h1
    exfalso
    rw [Bool.or_eq_false_iff] at h1
    rcases h with ⟨a1, a2, a3⟩ | ⟨a1, a2⟩
    · have := h1.1
      rw [decide_eq_true a1, decide_eq_true a2, a3] at this
      exact absurd this (by decide)
    · have := h1.2
      rw [decide_eq_true a1, decide_eq_true a2] at this
      exact absurd this (by decide)
  · exact of_decide_eq_true h1
def CN (x y t : Nat) (I : pI) (P : pP) (I' : pI) (P' : pP) : Prop := (∀ a k, a < x → I' a k = I a k) ∧ (∀ a k, a < t → P' a k = P a k) ∧ (∀ a k, x ≤ a → a < y → a ≠ 2 → a ≠ 44 → a ≠ 51 → a ≠ 57 → I' a k = 0) ∧ (∀ a k, t ≤ a → a < y → RQ a k → P' a k = pRs a k)
def pOc (N : Nat) (post : pI → pJ → pP → Prop) : pQ := fun o n' I' J' P' => o = .inl none ∧ n' = N ∧ post I' J' P'
section Rows
variable {M : pT} {Q : pQ} {pc : Nat} {L : List (Nat × Value)} {st : List Value} {n : Nat} {I : pI} {J : pJ} {P : pP} {kc ks : Nat}
theorem pw_P2 {P' : pP} (hn : n ≤ 84) (h : ∀ a k, a < n → RQ a k → P a k = P' a k) (kk : PW M Q pc L st n I J P' kc ks) : PW M Q pc L st n I J P kc ks :=
  pw_P (fun a ha k => ⟨fun h1 h2 h3 => h a k ha (RQ_of (by omega) (Or.inl ⟨h1, h2, h3⟩)), fun h1 h2 => h a k ha (RQ_of (by omega) (Or.inr ⟨h1, h2⟩))⟩) kk
theorem pw_ck {kc' ks' : Nat} (h1 : kc = kc') (h2 : ks ≤ ks') (kk : PW M Q pc L st n I J P kc' ks') : PW M Q pc L st n I J P kc ks := by
  subst h1; exact pw_widen (Nat.le_refl _) h2 kk
theorem pw_cI {N : Nat} {post : pI → pJ → pP → Prop} {y : MethodName} {cc : ByteArray} {nL : Nat} {rm : Room} {as st0 : List Value} {a idx n0 : Nat} {i : Bool} {X : pEnv → (Nat → Prop) → State → Prop} (hd : decode (pT.cc M) pc = .ok (.invokespecial idx, 3)) (hM : pMetZ y (pws y cc nL none) rm (.ref a :: as) n I J P (pOc N post)) (hz9 : pT.z M = some (n0, i, X)) (hk9 : n0 + kc = n) (hw : pWI (pT.own M) idx y cc nL as.length = true) (ha : a < 1000) (hh : pT.hh M = [])
    (hR : rm.frames + 1 ≤ (pT.R M).frames ∧ 8 + (nL + 11) + rm.locals ≤ (pT.R M).locals) (hc : kc + rm.cells ≤ (pT.R M).cells) (hs : ks + rm.slots ≤ (pT.R M).slots) (h0 : st0 = as.reverse ++ .ref a :: st) (h8 : (st.map fun v => v.category).sum ≤ 8)
    (kk : ∀ I' J' P', post I' J' P' → PW M Q (pc + 3) L st N I' J' P' (kc + rm.cells) (ks + rm.slots)) : PW M Q pc L st0 n I J P kc ks :=
  pw_callI hd hM (fun E n' I' J' P' h => by obtain ⟨h, -⟩ := h; cases h) hz9 hk9 hw ha hh hR hc hs h0 h8 (fun r n' I' J' P' h => by obtain ⟨h1, rfl, h2⟩ := h; cases h1; exact kk I' J' P' h2)
end Rows
theorem zI_ne {I : pI} {n a k : Nat} (h : a ≠ n) : zI I n a k = I a k := if_neg h
theorem zI_eq {I : pI} {n k : Nat} : zI I n n k = 0 := if_pos rfl
theorem zP_ne {P : pP} {n a k : Nat} (h : a ≠ n) : zP P n a k = P a k := if_neg h
theorem upP_ne {P : pP} {x y a k : Nat} {v : Option Nat} (h : a ≠ x ∨ k ≠ y) : upP P x y v a k = P a k := if_neg (by omega)
theorem upP_eq {P : pP} {x y : Nat} {v : Option Nat} : upP P x y v x y = v := if_pos ⟨rfl, rfl⟩
theorem aw_I : pIn (.arrayClass .int) = true := by decide +kernel
theorem aw_L : pIn (.arrayClass .long) = true := by decide +kernel
theorem aw_Z : pIn (.arrayClass .boolean) = true := by decide +kernel
theorem ob_X0 : (pIn (.methodLink RX0 3 Lib.objectInit) && (pIn (.instanceMethod Lib.objectInit) && pIn (.code Lib.objectInit ⟨#[0xb1]⟩ 1 none))) = true := by decide +kernel
theorem ob_X1 : (pIn (.methodLink RX1 3 Lib.objectInit) && (pIn (.instanceMethod Lib.objectInit) && pIn (.code Lib.objectInit ⟨#[0xb1]⟩ 1 none))) = true := by decide +kernel
theorem ob_X2 : (pIn (.methodLink RX2 1 Lib.objectInit) && (pIn (.instanceMethod Lib.objectInit) && pIn (.code Lib.objectInit ⟨#[0xb1]⟩ 1 none))) = true := by decide +kernel
theorem ob_X3 : (pIn (.methodLink RX3 3 Lib.objectInit) && (pIn (.instanceMethod Lib.objectInit) && pIn (.code Lib.objectInit ⟨#[0xb1]⟩ 1 none))) = true := by decide +kernel
theorem ob_X4 : (pIn (.methodLink RX4 3 Lib.objectInit) && (pIn (.instanceMethod Lib.objectInit) && pIn (.code Lib.objectInit ⟨#[0xb1]⟩ 1 none))) = true := by decide +kernel
theorem ob_X5 : (pIn (.methodLink RX5 1 Lib.objectInit) && (pIn (.instanceMethod Lib.objectInit) && pIn (.code Lib.objectInit ⟨#[0xb1]⟩ 1 none))) = true := by decide +kernel
theorem ob_X6 : (pIn (.methodLink RX6 1 Lib.objectInit) && (pIn (.instanceMethod Lib.objectInit) && pIn (.code Lib.objectInit ⟨#[0xb1]⟩ 1 none))) = true := by decide +kernel
theorem nw_X4_9 : pWNw RX4 9 2 = true := by decide +kernel
theorem nw_X1_9 : pWNw RX1 9 0 = true := by decide +kernel
theorem nw_X3_15 : pWNw RX3 15 1 = true := by decide +kernel
theorem nw_X5_7 : pWNw RX5 7 4 = true := by decide +kernel
theorem nw_X5_16 : pWNw RX5 16 1 = true := by decide +kernel
theorem nw_X5_23 : pWNw RX5 23 3 = true := by decide +kernel
theorem iw_X4_17 : pWI RX4 17 yX2_init cX2_init 1 0 = true := by decide +kernel
theorem iw_X1_17 : pWI RX1 17 yX0_init cX0_init 1 0 = true := by decide +kernel
theorem iw_X3_17 : pWI RX3 17 yX1_init cX1_init 2 0 = true := by decide +kernel
theorem iw_X5_9 : pWI RX5 9 yX4_init cX4_init 2 0 = true := by decide +kernel
theorem iw_X5_18 : pWI RX5 18 yX1_init cX1_init 2 0 = true := by decide +kernel
theorem iw_X5_25 : pWI RX5 25 yX3_init cX3_init 1 0 = true := by decide +kernel
theorem al_X1 : pIn (.classLink RX1 9 "LockMuseum$Contender") = true := by decide +kernel
theorem al_X4 : pIn (.classLink RX4 9 "LockMuseum$Instruction") = true := by decide +kernel
theorem pf_X1_0 : pWF RX1 1 0 = true := by decide +kernel
theorem pf_X3_0 : pWF RX3 3 0 = true := by decide +kernel
theorem pf_X3_3 : pWF RX3 3 3 = true := by decide +kernel
theorem pf_X3_4 : pWF RX3 3 4 = true := by decide +kernel
theorem pf_X3_5 : pWF RX3 3 5 = true := by decide +kernel
theorem pf_X3_6 : pWF RX3 3 6 = true := by decide +kernel
theorem pf_X3_7 : pWF RX3 3 7 = true := by decide +kernel
theorem pf_X3_8 : pWF RX3 3 8 = true := by decide +kernel
theorem pf_X3_9 : pWF RX3 3 9 = true := by decide +kernel
theorem pf_X3_10 : pWF RX3 3 10 = true := by decide +kernel
theorem pf_X3_11 : pWF RX3 3 11 = true := by decide +kernel
theorem pf_X3_12 : pWF RX3 3 12 = true := by decide +kernel
theorem pf_X4_0 : pWF RX4 4 0 = true := by decide +kernel
theorem pf_X5_0 : pWF RX5 5 0 = true := by decide +kernel
theorem pf_X5_1 : pWF RX5 5 1 = true := by decide +kernel
theorem pf_X5_2 : pWF RX5 5 2 = true := by decide +kernel
theorem pf_X6_3 : pWF RX6 6 3 = true := by decide +kernel
theorem pf_X6_4 : pWF RX6 6 4 = true := by decide +kernel
theorem pf_X6_5 : pWF RX6 6 5 = true := by decide +kernel
theorem pf_X6_6 : pWF RX6 6 6 = true := by decide +kernel
theorem pf_X6_7 : pWF RX6 6 7 = true := by decide +kernel
theorem pf_X6_8 : pWF RX6 6 8 = true := by decide +kernel
theorem pf_X6_9 : pWF RX6 6 9 = true := by decide +kernel
theorem pf_X6_10 : pWF RX6 6 10 = true := by decide +kernel
theorem pf_X6_11 : pWF RX6 6 11 = true := by decide +kernel
theorem pf_X6_13 : pWF RX6 6 13 = true := by decide +kernel
theorem pf_X6_14 : pWF RX6 6 14 = true := by decide +kernel
theorem pf_X6_15 : pWF RX6 6 15 = true := by decide +kernel
theorem pf_X6_16 : pWF RX6 6 16 = true := by decide +kernel
theorem pf_X6_17 : pWF RX6 6 17 = true := by decide +kernel
theorem pf_X6_18 : pWF RX6 6 18 = true := by decide +kernel
theorem pf_X6_19 : pWF RX6 6 19 = true := by decide +kernel
theorem pf_X6_20 : pWF RX6 6 20 = true := by decide +kernel
theorem pf_X6_22 : pWF RX6 6 22 = true := by decide +kernel
set_option maxRecDepth 100000 in
set_option maxHeartbeats 4000000 in
theorem z_X0_init {a n : Nat} (I : pI) (J : pJ) (P : pP) : pMetZ yX0_init (pws yX0_init cX0_init 1 none) { frames := 1, cells := 0, slots := 0, locals := 12 } [.ref a] n I J P (pOc n (fun I' J' P' => I' = I ∧ J' = J ∧ P' = P)) := by
  refine pMetZ_of (i := true) (by decide) (fun _ => rfl) (Nat.le_of_ble_eq_true rfl) ?_
  refine pw_aload_n dX0_init_0 rfl ?_
  refine pw_obj dX0_init_1 ob_X0 (Nat.le_of_ble_eq_true rfl) (Nat.le_of_ble_eq_true rfl) ?_
  refine pw_vret dX0_init_4 rfl (Nat.le_of_ble_eq_true rfl) (Nat.le_of_ble_eq_true rfl) ?_
  exact ⟨rfl, rfl, rfl, rfl, rfl⟩
set_option maxRecDepth 100000 in
set_option maxHeartbeats 4000000 in
theorem z_X2_init {a n : Nat} (I : pI) (J : pJ) (P : pP) : pMetZ yX2_init (pws yX2_init cX2_init 1 none) { frames := 1, cells := 0, slots := 0, locals := 12 } [.ref a] n I J P (pOc n (fun I' J' P' => I' = I ∧ J' = J ∧ P' = P)) := by
  refine pMetZ_of (i := true) (by decide) (fun _ => rfl) (Nat.le_of_ble_eq_true rfl) ?_
  refine pw_aload_n dX2_init_0 rfl ?_
  refine pw_obj dX2_init_1 ob_X2 (Nat.le_of_ble_eq_true rfl) (Nat.le_of_ble_eq_true rfl) ?_
  refine pw_vret dX2_init_4 rfl (Nat.le_of_ble_eq_true rfl) (Nat.le_of_ble_eq_true rfl) ?_
  exact ⟨rfl, rfl, rfl, rfl, rfl⟩
abbrev mz_X4 : pT := (yX4_init.cls, cX4_init, 2, none, { frames := 2, cells := 41, slots := 200, locals := 32 }, [], some (2, true, fun _ _ _ => True))
set_option maxRecDepth 100000 in
set_option maxHeartbeats 4000000 in
theorem l_X4 {I0 : pI} {P0 : pP} (Q : pQ) : ∀ (m i : Nat) (I : pI) (J : pJ) (P : pP), i + m = 40 → (∀ a k, a < 3 → I a k = I0 a k) → (∀ a k, 3 ≤ a → a < 3 + i → I a k = 0) → (∀ a k, a < 1 → P a k = P0 a k) → P 1 0 = some 2 → (∀ k, k < i → P 2 k = some (3 + k)) → (∀ (I' : pI) (P' : pP), (∀ a k, a < 3 → I' a k = I0 a k) → (∀ a k, 3 ≤ a → a < 43 → I' a k = 0) → (∀ a k, a < 1 → P' a k = P0 a k) → P' 1 0 = some 2 → (∀ k, k < 40 → P' 2 k = some (3 + k)) → Q (.inl none) 43 I' J P') → PW mz_X4 Q 15 [(0, .ref 1), (1, .int (nI i))] [] (3 + i) I J P (i + 1) (40 + 4 * i) := by
  intro m
  induction m with
  | zero =>
    intro i I J P him h1 h2 h3 h4 h5 hK
    refine pw_ck (kc' := i + 1) (ks' := 40 + 4 * i) rfl (Nat.le_refl _) ?_
    rw [show 3 + i = 43 by omega]
    refine pw_iload_n dX4_init_15 rfl ?_
    refine pw_bipush (v := 40) dX4_init_16 (by decide) ?_
    refine pw_icmp_ge (tgt := 40) dX4_init_18 (by decide) (fun h18 => ?_) (fun h18 => ?_)
    · refine pw_vret dX4_init_40 rfl (by show i + 1 ≤ 41; omega) (by show 40 + 4 * i ≤ 200; omega) ?_
      have e : i = 40 := by omega
      subst e
      exact hK I P h1 h2 h3 h4 h5
    · exact absurd (nI_le (a := 40) (b := i) (by omega) (by omega)) h18
  | succ m ih =>
    intro i I J P him h1 h2 h3 h4 h5 hK
    refine pw_iload_n dX4_init_15 rfl ?_
    refine pw_bipush (v := 40) dX4_init_16 (by decide) ?_
    refine pw_icmp_ge (tgt := 40) dX4_init_18 (by decide) (fun h18 => ?_) (fun h18 => ?_)
    · exact absurd ((nI_leI (a := 40) (b := i) (by decide) (by omega)).mp h18) (by omega)
    · refine pw_aload_n dX4_init_21 rfl ?_
      refine pw_getr dX4_init_22 fl_X4_11 rfl rfl (by omega) (by omega) h4 ?_
      refine pw_iload_n dX4_init_25 rfl ?_
      refine pw_new (ci := 2) dX4_init_26 rfl (by omega) nw_X4_9 (pS_ins (by omega)) (by omega) (by show i + 1 + 1 ≤ 41; omega) (by show 40 + 4 * i + 4 ≤ 200; omega) ?_
      refine pw_dup dX4_init_29 rfl ?_
      refine pw_cI (N := 3 + i + 1) (y := yX2_init) (cc := cX2_init) (nL := 1) (rm := { frames := 1, cells := 0, slots := 0, locals := 12 }) dX4_init_30 (z_X2_init _ _ _) rfl (by omega) iw_X4_17 (by omega) rfl ⟨by decide, by decide⟩ (by show i + 1 + 1 ≤ 41; omega) (by show 40 + 4 * i + 4 ≤ 200; omega) rfl (Nat.le_of_ble_eq_true rfl) (fun I9 J9 P9 q9 => ?_)
      obtain ⟨rfl, rfl, rfl⟩ := q9
      refine pw_stN dX4_init_33 rfl (by omega) (pS_ins (by omega)) (by omega) (by omega) (vp_in_nI (by omega) (by decide)) ?_
      rw [nI_clamp (show i < 2 ^ 31 by omega)]
      refine pw_iinc (v := nI (i + 1)) dX4_init_34 rfl (by rw [nI_succ]; rfl) (by decide) ?_
      refine pw_goto (tgt := 15) dX4_init_37 (by decide) ?_
      refine pw_loc (L' := [(0, .ref 1), (1, .int (nI (i + 1)))]) rfl ?_
      refine pw_ck (kc' := i + 1 + 1) (ks' := 40 + 4 * (i + 1)) rfl (by show 40 + 4 * i + 4 ≤ _; omega) ?_
      refine ih (i + 1) _ _ _ (by omega) (fun a k ha => by rw [zI_ne (by omega)]; exact h1 a k ha) (fun a k ha hb => ?_) (fun a k ha => by rw [upP_ne (by omega), zP_ne (by omega)]; exact h3 a k ha) (by rw [upP_ne (by omega), zP_ne (by omega)]; exact h4) (fun k hk => ?_) hK
      · by_cases e : a = 3 + i
        · subst e; exact zI_eq
        · rw [zI_ne e]; exact h2 a k ha (by omega)
      · by_cases e : k = i
        · subst e; exact upP_eq
        · rw [upP_ne (by omega), zP_ne (by omega)]; exact h5 k (by omega)
set_option maxRecDepth 100000 in
set_option maxHeartbeats 4000000 in
theorem z_X4_init (I : pI) (J : pJ) (P : pP) : pMetZ yX4_init (pws yX4_init cX4_init 2 none) { frames := 2, cells := 41, slots := 200, locals := 32 } [.ref 1] 2 I J P (pOc 43 (fun I' J' P' => CN 2 43 1 I P I' P')) := by
  refine pMetZ_of (i := true) (by decide) (fun _ => rfl) (Nat.le_of_ble_eq_true rfl) ?_
  refine pw_aload_n dX4_init_0 rfl ?_
  refine pw_obj dX4_init_1 ob_X4 (Nat.le_of_ble_eq_true rfl) (Nat.le_of_ble_eq_true rfl) ?_
  refine pw_aload_n dX4_init_4 rfl ?_
  refine pw_bipush (v := 40) dX4_init_5 (by decide) ?_
  refine pw_newN dX4_init_7 rfl rfl al_X4 rfl (by decide) (by decide) (by decide) (by decide) (by decide) (by decide) ?_
  refine pw_putr dX4_init_10 rfl fl_X4_11 pf_X4_0 rfl (fun _ => rfl) (fun _ => rfl) rfl (by decide) (by decide) (by decide) ?_
  refine pw_iconst (v := 0) dX4_init_13 (by decide) ?_
  refine pw_istore_n dX4_init_14 (by decide) ?_
  refine pw_loc (L' := [(0, .ref 1), (1, .int (nI 0))]) rfl ?_
  refine l_X4 (I0 := I) (P0 := P) _ 40 0 _ J _ (by decide) (fun _ _ _ => rfl) (fun a k h1 h2 => absurd h2 (by omega)) (fun a k ha => by rw [upP_ne (by omega), zP_ne (by omega)]) upP_eq (fun k hk => absurd hk (by omega)) (fun I' P' h1 h2 h3 h4 h5 => ⟨rfl, rfl, ⟨fun a k ha => h1 a k (by omega), h3, fun a k ha hb e1 e2 e3 e4 => h2 a k (by omega) hb, fun a k ha hb hR => ?_⟩⟩)
  rcases (show (a = 1 ∧ k = 0) ∨ (a = 2 ∧ k < 40) by unfold RQ at hR; omega) with ⟨rfl, rfl⟩ | ⟨rfl, hk⟩
  · exact h4
  · exact h5 k hk
abbrev mz_X1 (h : Nat) : pT := (yX1_init.cls, cX1_init, 2, none, { frames := 2, cells := 4, slots := 21, locals := 32 }, [], some (h + 1, true, fun _ _ _ => True))
set_option maxRecDepth 100000 in
set_option maxHeartbeats 4000000 in
theorem l_X1 {h : Nat} (hh : h = 43 ∨ h = 50) {I0 : pI} {P0 : pP} (Q : pQ) : ∀ (m i : Nat) (I : pI) (J : pJ) (P : pP), i + m = 3 → (∀ a k, a < h + 2 → I a k = I0 a k) → (∀ a k, h + 2 ≤ a → a < h + 2 + i → I a k = 0) → (∀ a k, a < h → P a k = P0 a k) → P h 0 = some (h + 1) → (∀ k, k < i → P (h + 1) k = some (h + 2 + k)) → (∀ (I' : pI) (P' : pP), (∀ a k, a < h + 2 → I' a k = I0 a k) → (∀ a k, h + 2 ≤ a → a < h + 5 → I' a k = 0) → (∀ a k, a < h → P' a k = P0 a k) → P' h 0 = some (h + 1) → (∀ k, k < 3 → P' (h + 1) k = some (h + 2 + k)) → Q (.inl none) (h + 5) I' J P') → PW (mz_X1 h) Q 14 [(0, .ref h), (1, .int (nI i))] [] (h + 2 + i) I J P (i + 1) (3 + 6 * i) := by
  intro m
  induction m with
  | zero =>
    intro i I J P him h1 h2 h3 h4 h5 hK
    rw [show h + 2 + i = h + 5 by omega]
    refine pw_iload_n dX1_init_14 rfl ?_
    refine pw_iconst (v := 3) dX1_init_15 (by decide) ?_
    refine pw_icmp_ge (tgt := 38) dX1_init_16 (by decide) (fun h16 => ?_) (fun h16 => ?_)
    · refine pw_vret dX1_init_38 rfl (by show i + 1 ≤ 4; omega) (by show 3 + 6 * i ≤ 21; omega) ?_
      have e : i = 3 := by omega
      subst e
      exact hK I P h1 h2 h3 h4 h5
    · exact absurd (nI_le (a := 3) (b := i) (by omega) (by omega)) h16
  | succ m ih =>
    intro i I J P him h1 h2 h3 h4 h5 hK
    refine pw_iload_n dX1_init_14 rfl ?_
    refine pw_iconst (v := 3) dX1_init_15 (by decide) ?_
    refine pw_icmp_ge (tgt := 38) dX1_init_16 (by decide) (fun h16 => ?_) (fun h16 => ?_)
    · exact absurd ((nI_leI (a := 3) (b := i) (by decide) (by omega)).mp h16) (by omega)
    · refine pw_aload_n dX1_init_19 rfl ?_
      refine pw_getr dX1_init_20 fl_X1_11 rfl (hl_h hh) (by omega) (by omega) h4 ?_
      refine pw_iload_n dX1_init_23 rfl ?_
      refine pw_new (ci := 0) dX1_init_24 rfl (by omega) nw_X1_9 (hl_c hh (by omega)) (by omega) (by show i + 1 + 1 ≤ 4; omega) (by show 3 + 6 * i + 6 ≤ 21; omega) ?_
      refine pw_dup dX1_init_27 rfl ?_
      refine pw_cI (N := h + 2 + i + 1) (y := yX0_init) (cc := cX0_init) (nL := 1) (rm := { frames := 1, cells := 0, slots := 0, locals := 12 }) dX1_init_28 (z_X0_init _ _ _) rfl (by omega) iw_X1_17 (by omega) rfl ⟨(Nat.le_of_ble_eq_true rfl), (Nat.le_of_ble_eq_true rfl)⟩ (by show i + 1 + 1 ≤ 4; omega) (by show 3 + 6 * i + 6 ≤ 21; omega) rfl (Nat.le_of_ble_eq_true rfl) (fun I9 J9 P9 q9 => ?_)
      obtain ⟨rfl, rfl, rfl⟩ := q9
      refine pw_stC dX1_init_31 (hl_ar hh) (by omega) (hl_c hh (by omega)) (by omega) (by omega) (vp_in_nI (by omega) (by decide)) ?_
      rw [nI_clamp (show i < 2 ^ 31 by omega)]
      refine pw_iinc (v := nI (i + 1)) dX1_init_32 rfl (by rw [nI_succ]; rfl) (Nat.le_of_ble_eq_true rfl) ?_
      refine pw_goto (tgt := 14) dX1_init_35 (by decide) ?_
      refine pw_loc (L' := [(0, .ref h), (1, .int (nI (i + 1)))]) rfl ?_
      refine pw_ck (kc' := i + 1 + 1) (ks' := 3 + 6 * (i + 1)) rfl (by show 3 + 6 * i + 6 ≤ _; omega) ?_
      refine ih (i + 1) _ _ _ (by omega) (fun a k ha => by rw [zI_ne (by omega)]; exact h1 a k ha) (fun a k ha hb => ?_) (fun a k ha => by rw [upP_ne (by omega), zP_ne (by omega)]; exact h3 a k ha) (by rw [upP_ne (by omega), zP_ne (by omega)]; exact h4) (fun k hk => ?_) hK
      · by_cases e : a = h + 2 + i
        · subst e; exact zI_eq
        · rw [zI_ne e]; exact h2 a k ha (by omega)
      · by_cases e : k = i
        · subst e; exact upP_eq
        · rw [upP_ne (by omega), zP_ne (by omega)]; exact h5 k (by omega)
set_option maxRecDepth 100000 in
set_option maxHeartbeats 4000000 in
theorem z_X1_init {h : Nat} (hh : h = 43 ∨ h = 50) (I : pI) (J : pJ) (P : pP) : pMetZ yX1_init (pws yX1_init cX1_init 2 none) { frames := 2, cells := 4, slots := 21, locals := 32 } [.ref h] (h + 1) I J P (pOc (h + 5) (fun I' J' P' => CN (h + 1) (h + 5) h I P I' P')) := by
  refine pMetZ_of (i := true) (by decide) (fun _ => rfl) (Nat.le_of_ble_eq_true rfl) ?_
  refine pw_aload_n dX1_init_0 rfl ?_
  refine pw_obj dX1_init_1 ob_X1 (Nat.le_of_ble_eq_true rfl) (Nat.le_of_ble_eq_true rfl) ?_
  refine pw_aload_n dX1_init_4 rfl ?_
  refine pw_iconst (v := 3) dX1_init_5 (by decide) ?_
  refine pw_newC dX1_init_6 rfl rfl al_X1 (hl_ar hh) (by decide) (by decide) (by decide) (by omega) (Nat.le_of_ble_eq_true rfl) (Nat.le_of_ble_eq_true rfl) ?_
  refine pw_putr dX1_init_9 rfl fl_X1_11 pf_X1_0 rfl (fun _ => rfl) (fun _ => rfl) (hl_h hh) (by omega) (by omega) (by omega) ?_
  refine pw_iconst (v := 0) dX1_init_12 (by decide) ?_
  refine pw_istore_n dX1_init_13 (Nat.le_of_ble_eq_true rfl) ?_
  refine pw_loc (L' := [(0, .ref h), (1, .int (nI 0))]) rfl ?_
  refine l_X1 hh (I0 := I) (P0 := P) _ 3 0 _ J _ (by decide) (fun _ _ _ => rfl) (fun a k h1 h2 => absurd h2 (by omega)) (fun a k ha => by rw [upP_ne (by omega), zP_ne (by omega)]) upP_eq (fun k hk => absurd hk (by omega)) (fun I' P' h1 h2 h3 h4 h5 => ⟨rfl, rfl, ⟨fun a k ha => h1 a k (by omega), h3, fun a k ha hb e1 e2 e3 e4 => h2 a k (by omega) hb, fun a k ha hb hR => ?_⟩⟩)
  rcases (show (a = h ∧ k = 0) ∨ (a = h + 1 ∧ k < 3) by unfold RQ at hR; omega) with ⟨rfl, rfl⟩ | ⟨rfl, hk⟩
  · rw [h4]; rcases hh with rfl | rfl <;> rfl
  · rw [h5 k hk]; rcases hh with rfl | rfl <;> rfl
