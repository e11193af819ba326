/-! THE STATES THAT CAN END: the reference -/
theorem or0 (x y : Int64) : x ||| y = 0 ↔ x = 0 ∧ y = 0 := by
  rw [← Int64.toBitVec_inj, ← Int64.toBitVec_inj, ← Int64.toBitVec_inj, Int64.toBitVec_or]
  exact BitVec.or_eq_zero_iff
theorem orL_0 {J : pJ} {s : Nat} : ∀ (m p : Nat) (x : Int64), orL J s m p x = 0 ↔ x = 0 ∧ ∀ j, p ≤ j → j < p + m → J 57 (3 * s + j) = 0 := by
  intro m
  induction m with
  | zero => intro p x; exact ⟨fun h => ⟨h, fun j h1 h2 => absurd h2 (by omega)⟩, fun h => h.1⟩
  | succ m ih =>
    intro p x
    rw [orL, ih, or0]
    refine ⟨fun ⟨⟨h1, h2⟩, h3⟩ => ⟨h1, fun j a b => ?_⟩, fun ⟨h1, h2⟩ => ⟨⟨h1, h2 p (Nat.le_refl _) (by omega)⟩, fun j a b => h2 j (by omega) (by omega)⟩⟩
    by_cases e : j = p
    · rw [e]; exact h2
    · exact h3 j (by omega) (by omega)
theorem ov_alike {C K0 K : pI} {JC J : pJ} {c f t : Nat} (hc : c ≤ 3) (h : JR C JC K0 J c f) (ht : t < f) : ovP (opI K J t) c ↔ orL JC t c 0 0 = 0 := by
  rw [orL_0]
  obtain ⟨-, w1, -⟩ := h t ht
  have hp : ∀ p, p < c → ((opI K J t 68 (3 + p) = 0 ∧ opI K J t 81 p = 0) ↔ JC 57 (3 * t + p) = 0) := by
    intro p hp
    obtain ⟨r, q, w, l, ht, e1, e2⟩ := w1 p hp
    obtain ⟨k0, -, -, k3⟩ := opI_own (K := K) (show p < 3 by omega) ht e2
    have hb := cN_lt ht
    obtain ⟨b1, b2, b3, b4, b5⟩ := ht
    rw [k0, k3, e1]
    refine ⟨fun ⟨a1, a2⟩ => ?_, fun a => ?_⟩
    · have hw : w = 0 := (nI_eq (a := w) (b := 0) (by omega) (by decide)).mp a1
      have hl : l = 0 := (nI_eq (a := l) (b := 0) (by omega) (by decide)).mp a2
      obtain ⟨q0, r0⟩ := b5 hw
      rw [hw, hl, q0, r0]; rfl
    · have h0 : cN r q w l = 0 := (pk_lEQ (a := cN r q w l) (b := 0) (by omega) (by decide)).mp a
      unfold cN at h0
      have hw : w = 0 := by omega
      have hl : l = 0 := by omega
      rw [hw, hl]; exact ⟨rfl, rfl⟩
  exact ⟨fun h => ⟨rfl, fun j _ hj => (hp j (by omega)).mp (h j (by omega))⟩, fun h j hj => (hp j hj).mpr (h.2 j (by omega) (by omega))⟩
def rcV (I : pI) (to : Nat → Option Nat) (s : Nat) : Nat → Int32 → Int32
  | 0, g => g
  | m + 1, g => rcV I to s m (if ¬ g = 0 then 1 else if dg (to (3 * s + m)) < 4095 ∧ ¬ I 80 (dg (to (3 * s + m))) = 0 then 1 else 0)
theorem rcV_iff {I : pI} {to : Nat → Option Nat} {s : Nat} : ∀ (m : Nat) (g : Int32), (g = 0 ∨ g = 1) → (∀ k t, k < m → to (3 * s + k) = some t → t < 3000) → ((rcV I to s m g = 1 ∧ (g = 1 ∨ ∃ k t, k < m ∧ to (3 * s + k) = some t ∧ ¬ I 80 t = 0)) ∨ (rcV I to s m g = 0 ∧ ¬ (g = 1 ∨ ∃ k t, k < m ∧ to (3 * s + k) = some t ∧ ¬ I 80 t = 0))) := by
  intro m
  induction m with
  | zero =>
    intro g hg _
    rcases hg with rfl | rfl
    · refine Or.inr ⟨rfl, fun h => ?_⟩
      rcases h with h | ⟨k, t, h, -⟩
      · exact absurd h (by decide)
      · omega
    · exact Or.inl ⟨rfl, Or.inl rfl⟩
  | succ m ih =>
    intro g hg hto
    rw [rcV]
    have hto' : ∀ k t, k < m → to (3 * s + k) = some t → t < 3000 := fun k t hk => hto k t (by omega)
    have up : (g = 1 ∨ ∃ k t, k < m + 1 ∧ to (3 * s + k) = some t ∧ ¬ I 80 t = 0) ↔ ((if ¬ g = 0 then (1 : Int32) else if dg (to (3 * s + m)) < 4095 ∧ ¬ I 80 (dg (to (3 * s + m))) = 0 then 1 else 0) = 1 ∨ ∃ k t, k < m ∧ to (3 * s + k) = some t ∧ ¬ I 80 t = 0) := by
      rcases hg with rfl | rfl
      · rw [if_neg (fun z => z rfl)]
        constructor
        · rintro (h | ⟨k, t, h1, h2, h3⟩)
          · exact absurd h (by decide)
          · by_cases e : k = m
            · subst e
              left
              rw [h2]
              rw [if_pos ⟨by have := hto k t (by omega) h2; show t < 4095; omega, h3⟩]
            · exact Or.inr ⟨k, t, by omega, h2, h3⟩
        · rintro (h | ⟨k, t, h1, h2, h3⟩)
          · by_cases h9 : dg (to (3 * s + m)) < 4095 ∧ ¬ I 80 (dg (to (3 * s + m))) = 0
            · cases ho : to (3 * s + m) with
              | none => rw [ho] at h9; exact absurd h9.1 (by decide)
              | some t => rw [ho] at h9; exact Or.inr ⟨m, t, by omega, ho, h9.2⟩
            · rw [if_neg h9] at h; exact absurd h (by decide)
          · exact Or.inr ⟨k, t, by omega, h2, h3⟩
      · rw [if_pos (by decide)]
        exact ⟨fun _ => Or.inl rfl, fun _ => Or.inl rfl⟩
    rw [up]
    refine ih _ ?_ hto'
    split
    · exact Or.inr rfl
    · split
      · exact Or.inr rfl
      · exact Or.inl rfl
abbrev m_X6_reaches : pT := (yX6_reaches.cls, cX6_reaches, 6, (some .boolean), { frames := 0, cells := 0, slots := 0, locals := 0 }, [], none)
theorem nb_01 {g : Int32} (h : g = 0 ∨ g = 1) : narrow .boolean (.int g) = .int g := by rcases h with rfl | rfl <;> rfl
theorem ldN_lt {to : Nat → Option Nat} {s : Nat} : ∀ m, (∀ k, k < m → dg (to (3 * s + k)) ≤ 4095) → ldN to s m < 4096 ^ m := by
  intro m
  induction m with
  | zero => intro _; exact Nat.one_pos
  | succ m ih => intro h; rw [ldN, Nat.pow_succ]; have := ih (fun k hk => h k (by omega)); have := h m (by omega); omega
set_option maxRecDepth 100000 in
set_option maxHeartbeats 4000000 in
theorem l_reach {s : Nat} {to : Nat → Option Nat} (I : pI) (J : pJ) (Q : pQ) : ∀ (m : Nat), m ≤ 3 → ∀ (g : Int32), (g = 0 ∨ g = 1) → (∀ k t, k < m → to (3 * s + k) = some t → t < 3000) → Q (.inl (some (.int (rcV I to s m g)))) 84 I J pRs → PW m_X6_reaches Q 18 [(0, .ref 64), (2, .int g), (3, .long (lN (ldN to s m + 4096 ^ m)))] [] 84 I J pRs 0 0 := by
  intro m
  induction m with
  | zero =>
    intro hm g hg hto hQ
    rw [rcV] at hQ
    rw [show lN (ldN to s 0 + 4096 ^ 0) = 1 from rfl]
    refine pw_lload_n dX6_reaches_18 rfl ?_
    refine pw_lconst (v := 1) dX6_reaches_19 (by decide) ?_
    refine pw_lcmp dX6_reaches_20 ?_
    refine pw_if_le (tgt := 69) dX6_reaches_21 (by decide) (fun h21 => ?_) (fun h21 => ?_)
    · refine pw_iload_n dX6_reaches_69 rfl ?_
      refine pw_iret dX6_reaches_70 rfl (nb_01 hg) (by decide) (by decide) ?_
      exact hQ
    · exact absurd ((lg_cmp_le _ _).mpr (Int64.le_refl _)) h21
  | succ m ih =>
    intro hm g hg hto hQ
    have hdg : ∀ k, k < m + 1 → dg (to (3 * s + k)) ≤ 4095 := fun k hk => by
      cases ho : to (3 * s + k) with
      | none => exact Nat.le_refl _
      | some t => have := hto k t hk ho; show t ≤ 4095; omega
    have hdm := hdg m (by omega)
    have hl1 := ldN_lt m (fun k hk => hdg k (by omega))
    have hl2 := ldN_lt (m + 1) hdg
    have hp1 : 4096 ^ m ≤ 4096 ^ 2 := Nat.pow_le_pow_right (by decide) (by omega)
    have hp2 : 4096 ^ (m + 1) ≤ 4096 ^ 3 := Nat.pow_le_pow_right (by decide) (by omega)
    have hp3 : 4096 ^ 2 = 16777216 := by decide
    have hp4 : 4096 ^ 3 = 68719476736 := by decide
    have hp5 : 4096 ^ 1 ≤ 4096 ^ (m + 1) := Nat.pow_le_pow_right (by decide) (by omega)
    have hp6 : 4096 ^ 1 = 4096 := by decide
    have e4 : ldN to s (m + 1) + 4096 ^ (m + 1) = (ldN to s m + 4096 ^ m) * 4096 + dg (to (3 * s + m)) := by rw [ldN, Nat.pow_succ]; omega
    refine pw_lload_n dX6_reaches_18 rfl ?_
    refine pw_lconst (v := 1) dX6_reaches_19 (by decide) ?_
    refine pw_lcmp dX6_reaches_20 ?_
    refine pw_if_le (tgt := 69) dX6_reaches_21 (by decide) (fun h21 => ?_) (fun h21 => ?_)
    · exact absurd ((lg_cmp_le _ _).mp h21) (Int64.not_le.mpr ((pk_lLT (a := 1) (b := ldN to s (m + 1) + 4096 ^ (m + 1)) (by decide) (by omega)).mpr (by omega)))
    · refine pw_lload_n dX6_reaches_24 rfl ?_
      refine pw_ldc2 (v := (4096)) dX6_reaches_25 k_X6_188 ?_
      refine pw_lrem dX6_reaches_28 (by decide) ?_
      rw [show (4096 : Int64) = lN 4096 by rfl, pk_lRem (by omega) (by decide) (by decide), e4, Nat.mul_add_mod_self_right, Nat.mod_eq_of_lt (show dg (to (3 * s + m)) < 4096 by omega)]
      refine pw_l2i dX6_reaches_29 ?_
      rw [lN_i]
      refine pw_istore dX6_reaches_30 (by decide) ?_
      refine pw_iload_n dX6_reaches_32 rfl ?_
      refine pw_if_ne (tgt := 54) dX6_reaches_33 (by decide) (fun h33 => ?_) (fun h33 => ?_)
      · refine pw_iconst (v := 1) dX6_reaches_54 (by decide) ?_
        refine pw_goto (tgt := 59) dX6_reaches_55 (by decide) ?_
        refine pw_istore_n dX6_reaches_59 (by decide) ?_
        refine pw_lload_n dX6_reaches_60 rfl ?_
        refine pw_ldc2 (v := (4096)) dX6_reaches_61 k_X6_188 ?_
        refine pw_ldiv dX6_reaches_64 (by decide) ?_
        rw [show (4096 : Int64) = lN 4096 by rfl, pk_lDiv (by omega) (by decide) (by decide), show ((ldN to s m + 4096 ^ m) * 4096 + dg (to (3 * s + m))) / 4096 = ldN to s m + 4096 ^ m by omega]
        refine pw_lstore_n dX6_reaches_65 (by decide) ?_
        refine pw_goto (tgt := 18) dX6_reaches_66 (by decide) ?_
        refine pw_loc (L' := [(0, .ref 64), (2, .int 1), (3, .long (lN (ldN to s m + 4096 ^ m)))]) rfl ?_
        exact ih (by omega) _ (Or.inr rfl) (fun k t hk => hto k t (by omega)) (by rw [rcV, if_pos h33] at hQ; exact hQ)
      · refine pw_iload dX6_reaches_36 rfl ?_
        refine pw_sipush (v := 4095) dX6_reaches_38 (by decide) ?_
        refine pw_icmp_ge (tgt := 58) dX6_reaches_41 (by decide) (fun h41 => ?_) (fun h41 => ?_)
        · refine pw_iconst (v := 0) dX6_reaches_58 (by decide) ?_
          refine pw_istore_n dX6_reaches_59 (by decide) ?_
          refine pw_lload_n dX6_reaches_60 rfl ?_
          refine pw_ldc2 (v := (4096)) dX6_reaches_61 k_X6_188 ?_
          refine pw_ldiv dX6_reaches_64 (by decide) ?_
          rw [show (4096 : Int64) = lN 4096 by rfl, pk_lDiv (by omega) (by decide) (by decide), show ((ldN to s m + 4096 ^ m) * 4096 + dg (to (3 * s + m))) / 4096 = ldN to s m + 4096 ^ m by omega]
          refine pw_lstore_n dX6_reaches_65 (by decide) ?_
          refine pw_goto (tgt := 18) dX6_reaches_66 (by decide) ?_
          refine pw_loc (L' := [(0, .ref 64), (2, .int 0), (3, .long (lN (ldN to s m + 4096 ^ m)))]) rfl ?_
          exact ih (by omega) _ (Or.inl rfl) (fun k t hk => hto k t (by omega)) (by rw [rcV, if_neg (fun z => z h33), if_neg (fun z => absurd z.1 (Nat.not_lt.mpr ((nI_leI (a := 4095) (b := dg (to (3 * s + m))) (by decide) (by omega)).mp h41)))] at hQ; exact hQ)
        · have hd3 : dg (to (3 * s + m)) < 3000 := by
            have h41n : dg (to (3 * s + m)) < 4095 := Nat.lt_of_not_le (fun z => h41 (nI_le (a := 4095) z (by omega)))
            cases ho : to (3 * s + m) with
            | none => rw [ho] at h41n; exact absurd h41n (by decide)
            | some t => exact hto m t (by omega) ho
          refine pw_aload_n dX6_reaches_44 rfl ?_
          refine pw_getr dX6_reaches_45 fl_X6_64 rfl rfl (by decide) (by decide) rfl ?_
          refine pw_iload dX6_reaches_48 rfl ?_
          refine pw_zald dX6_reaches_50 rfl (by decide) (by decide) (vp_in_nI (by omega) (by decide)) ?_
          rw [nI_clamp (show dg (to (3 * s + m)) < 2 ^ 31 by omega)]
          refine pw_if_eq (tgt := 58) dX6_reaches_51 (by decide) (fun h51 => ?_) (fun h51 => ?_)
          · refine pw_iconst (v := 0) dX6_reaches_58 (by decide) ?_
            refine pw_istore_n dX6_reaches_59 (by decide) ?_
            refine pw_lload_n dX6_reaches_60 rfl ?_
            refine pw_ldc2 (v := (4096)) dX6_reaches_61 k_X6_188 ?_
            refine pw_ldiv dX6_reaches_64 (by decide) ?_
            rw [show (4096 : Int64) = lN 4096 by rfl, pk_lDiv (by omega) (by decide) (by decide), show ((ldN to s m + 4096 ^ m) * 4096 + dg (to (3 * s + m))) / 4096 = ldN to s m + 4096 ^ m by omega]
            refine pw_lstore_n dX6_reaches_65 (by decide) ?_
            refine pw_goto (tgt := 18) dX6_reaches_66 (by decide) ?_
            refine pw_loc (L' := [(0, .ref 64), (2, .int 0), (3, .long (lN (ldN to s m + 4096 ^ m)))]) rfl ?_
            exact ih (by omega) _ (Or.inl rfl) (fun k t hk => hto k t (by omega)) (by rw [rcV, if_neg (fun z => z h33), if_neg (fun z => z.2 h51)] at hQ; exact hQ)
          · refine pw_iconst (v := 1) dX6_reaches_54 (by decide) ?_
            refine pw_goto (tgt := 59) dX6_reaches_55 (by decide) ?_
            refine pw_istore_n dX6_reaches_59 (by decide) ?_
            refine pw_lload_n dX6_reaches_60 rfl ?_
            refine pw_ldc2 (v := (4096)) dX6_reaches_61 k_X6_188 ?_
            refine pw_ldiv dX6_reaches_64 (by decide) ?_
            rw [show (4096 : Int64) = lN 4096 by rfl, pk_lDiv (by omega) (by decide) (by decide), show ((ldN to s m + 4096 ^ m) * 4096 + dg (to (3 * s + m))) / 4096 = ldN to s m + 4096 ^ m by omega]
            refine pw_lstore_n dX6_reaches_65 (by decide) ?_
            refine pw_goto (tgt := 18) dX6_reaches_66 (by decide) ?_
            refine pw_loc (L' := [(0, .ref 64), (2, .int 1), (3, .long (lN (ldN to s m + 4096 ^ m)))]) rfl ?_
            exact ih (by omega) _ (Or.inr rfl) (fun k t hk => hto k t (by omega)) (by rw [rcV, if_neg (fun z => z h33), if_pos ⟨by omega, h51⟩] at hQ; exact hQ)
set_option maxRecDepth 100000 in
set_option maxHeartbeats 4000000 in
theorem r_reaches {s : Nat} {to : Nat → Option Nat} (I : pI) (J : pJ) (hs : s < 3000) (hJ : J 79 s = lN (ldN to s 3)) (hto : ∀ k t, k < 3 → to (3 * s + k) = some t → t < 3000) (hb : I 80 s = 0 ∨ I 80 s = 1) : pMet yX6_reaches (pws yX6_reaches cX6_reaches 6 (some .boolean)) { frames := 0, cells := 0, slots := 0, locals := 0 } [.ref 64, .int (nI s)] 84 I J pRs (pOi (fun r I' J' => ((r = 1 ∧ (¬ I 80 s = 0 ∨ ∃ k t, k < 3 ∧ to (3 * s + k) = some t ∧ ¬ I 80 t = 0)) ∨ (r = 0 ∧ ¬ (¬ I 80 s = 0 ∨ ∃ k t, k < 3 ∧ to (3 * s + k) = some t ∧ ¬ I 80 t = 0))) ∧ I' = I ∧ J' = J)) := by
  refine pMet_of (by decide) (Nat.le_of_ble_eq_true rfl) ?_
  refine pw_aload_n dX6_reaches_0 rfl ?_
  refine pw_getr dX6_reaches_1 fl_X6_64 rfl rfl (by decide) (by decide) rfl ?_
  refine pw_iload_n dX6_reaches_4 rfl ?_
  refine pw_zald dX6_reaches_5 rfl (by decide) (by decide) (vp_in_nI (by omega) (by decide)) ?_
  rw [nI_clamp (show s < 2 ^ 31 by omega)]
  refine pw_istore_n dX6_reaches_6 (by decide) ?_
  refine pw_aload_n dX6_reaches_7 rfl ?_
  refine pw_getr dX6_reaches_8 fl_X6_61 rfl rfl (by decide) (by decide) rfl ?_
  refine pw_iload_n dX6_reaches_11 rfl ?_
  refine pw_lald dX6_reaches_12 rfl (by decide) (by decide) (vp_in_nI (by omega) (by decide)) ?_
  rw [nI_clamp (show s < 2 ^ 31 by omega)]
  rw [hJ]
  refine pw_ldc2 (v := (68719476736)) dX6_reaches_13 k_X6_190 ?_
  refine pw_ladd dX6_reaches_16 ?_
  rw [show (68719476736 : Int64) = lN (4096 ^ 3) by rfl, lN_add]
  refine pw_lstore_n dX6_reaches_17 (by decide) ?_
  refine pw_loc (L' := [(0, .ref 64), (2, .int (I 80 s)), (3, .long (lN (ldN to s 3 + 4096 ^ 3)))]) rfl ?_
  refine l_reach I J _ 3 (Nat.le_refl _) (I 80 s) hb hto ⟨_, rfl, rfl, rfl, ?_, rfl, rfl⟩
  have h80 : I 80 s = 1 ↔ ¬ I 80 s = 0 := ⟨fun z => by rw [z]; decide, fun z => hb.resolve_left z⟩
  have := rcV_iff 3 (I 80 s) hb hto (I := I)
  rw [h80] at this
  exact this
abbrev m_X6_allEnd : pT := (yX6_allEnd.cls, cX6_allEnd, 4, (some .boolean), { frames := 2, cells := 0, slots := 0, locals := 48 }, [], none)
def OF (I0 I : pI) : Prop := ∀ a k, (a ≠ 67 ∨ k < 8) → a ≠ 81 → ((a ≠ 68 ∧ a ≠ 69) ∨ k < 3) → (a ≠ 70 ∨ k < 18) → a ≠ 80 → I a k = I0 a k
theorem OF.op {I0 I : pI} {J : pJ} {s : Nat} {v : Int32} (h : OF I0 I) : OF I0 (upI (opI I J s) 80 s v) := fun a k h1 h2 h3 h4 h5 => by
  rw [upI_a h5, opI_o (by omega) (by omega) (by omega) (by omega) (by omega)]; exact h a k h1 h2 h3 h4 h5
theorem OF.up {I0 I : pI} {s : Nat} {v : Int32} (h : OF I0 I) : OF I0 (upI I 80 s v) := fun a k h1 h2 h3 h4 h5 => by
  rw [upI_a h5]; exact h a k h1 h2 h3 h4 h5
def EW (ce ov : Nat → Prop) (I0 I : pI) (n : Nat) : Prop := OF I0 I ∧ (∀ t, t < n → I 80 t = 0 ∨ I 80 t = 1) ∧ (∀ t, t < n → ov t → ¬ I 80 t = 0) ∧ (∀ t, t < n → ¬ I 80 t = 0 → ce t)
theorem vn_if {p : Prop} [Decidable p] : vp_nar .boolean (if p then 1 else 0) = (if p then 1 else 0) := by split <;> rfl
set_option maxRecDepth 100000 in
set_option maxHeartbeats 4000000 in
theorem l_ae1 {c f : Nat} {ce ov : Nat → Prop} {I0 : pI} (J : pJ) (Q : pQ) (hf3 : f ≤ 3000) (hc : c ≤ 3) (hf : I0 64 12 = nI f) (hcI : I0 64 2 = nI c) (hov : ∀ t, t < f → ∀ K : pI, ovP (opI K J t) c ↔ ov t) (hco : ∀ t, ov t → ce t) (hK : ∀ (I' : pI), EW ce ov I0 I' f → PW m_X6_allEnd Q 31 [(0, .ref 64)] [] 84 I' J pRs 0 0) : ∀ (m s : Nat) (I : pI), s + m = f → EW ce ov I0 I s → PW m_X6_allEnd Q 2 [(0, .ref 64), (1, .int (nI s))] [] 84 I J pRs 0 0 := by
  intro m
  induction m with
  | zero =>
    intro s I hsm hE
    refine pw_iload_n dX6_allEnd_2 rfl ?_
    refine pw_aload_n dX6_allEnd_3 rfl ?_
    refine pw_geti dX6_allEnd_4 fl_X6_171 rfl rfl (by decide) (by decide) ?_
    rw [show I 64 12 = nI f by rw [hE.1 64 12 (by decide) (by decide) (by decide) (by decide) (by decide)]; exact hf]
    refine pw_icmp_ge (tgt := 31) dX6_allEnd_7 (by decide) (fun h7 => ?_) (fun h7 => ?_)
    · refine pw_loc (L' := [(0, .ref 64)]) rfl ?_
      have hsf : s = f := by omega
      subst hsf
      exact hK I hE
    · exact absurd (nI_le (a := f) (b := s) (by omega) (by omega)) h7
  | succ m ih =>
    intro s I hsm hE
    have e80 : ∀ t, opI I J s 80 t = I 80 t := fun t => opI_o (by omega) (by omega) (by omega) (by omega) (by omega)
    refine pw_iload_n dX6_allEnd_2 rfl ?_
    refine pw_aload_n dX6_allEnd_3 rfl ?_
    refine pw_geti dX6_allEnd_4 fl_X6_171 rfl rfl (by decide) (by decide) ?_
    rw [show I 64 12 = nI f by rw [hE.1 64 12 (by decide) (by decide) (by decide) (by decide) (by decide)]; exact hf]
    refine pw_icmp_ge (tgt := 31) dX6_allEnd_7 (by decide) (fun h7 => ?_) (fun h7 => ?_)
    · exact absurd ((nI_leI (a := f) (b := s) (by omega) (by omega)).mp h7) (by omega)
    · refine pw_aload_n dX6_allEnd_10 rfl ?_
      refine pw_iload_n dX6_allEnd_11 rfl ?_
      refine pw_cVv (ci := 6) (y := yX6_open) (cc := cX6_open) (nL := 3) (ret := none) (rm := { frames := 1, cells := 0, slots := 0, locals := 26 }) dX6_allEnd_12 (r_open _ _ (by omega)) w_X6_174 rfl (by decide) rfl ⟨by decide, by decide⟩ (by decide) (by decide) rfl (Nat.le_of_ble_eq_true rfl) (fun I12 J12 q12 => ?_)
      obtain ⟨rfl, rfl⟩ := rvv q12
      refine pw_aload_n dX6_allEnd_15 rfl ?_
      refine pw_getr dX6_allEnd_16 fl_X6_64 rfl rfl (by decide) (by decide) rfl ?_
      refine pw_iload_n dX6_allEnd_19 rfl ?_
      refine pw_aload_n dX6_allEnd_20 rfl ?_
      refine pw_cVi (ci := 6) (y := yX6_isOver) (cc := cX6_isOver) (nL := 3) (ret := (some .boolean)) (rm := { frames := 0, cells := 0, slots := 0, locals := 0 }) dX6_allEnd_21 (r_isOver _ _ hc (show opI I J s 64 2 = nI c by rw [opI_o (by omega) (by omega) (by omega) (by omega) (by omega), hE.1 64 2 (by decide) (by decide) (by decide) (by decide) (by decide)]; exact hcI)) w_X6_192 rfl (by decide) rfl ⟨by decide, by decide⟩ (by decide) (by decide) rfl (Nat.le_of_ble_eq_true rfl) (fun x21 I21 J21 q21 => ?_)
      obtain ⟨rfl, rfl, rfl⟩ := rvq q21
      refine pw_zast dX6_allEnd_24 rfl (by decide) (by decide) (vp_in_nI (by omega) (by decide)) vn_if ?_
      rw [nI_clamp (show s < 2 ^ 31 by omega)]
      refine pw_iinc (v := nI (s + 1)) dX6_allEnd_25 rfl (by rw [nI_succ]; rfl) (by decide) ?_
      refine pw_goto (tgt := 2) dX6_allEnd_28 (by decide) ?_
      refine pw_loc (L' := [(0, .ref 64), (1, .int (nI (s + 1)))]) rfl ?_
      refine ih (s + 1) _ (by omega) ⟨hE.1.op, fun t ht => ?_, fun t ht hv => ?_, fun t ht hv => ?_⟩
      · by_cases e1 : t = s
        · subst e1; rw [upI_s]; split
          · exact Or.inr rfl
          · exact Or.inl rfl
        · rw [upI_k e1, e80]; exact hE.2.1 t (by omega)
      · by_cases e1 : t = s
        · subst e1; rw [upI_s, if_pos ((hov t (by omega) I).mpr hv)]; decide
        · rw [upI_k e1, e80]; exact hE.2.2.1 t (by omega) hv
      · by_cases e1 : t = s
        · subst e1
          rw [upI_s] at hv
          exact hco t ((hov t (by omega) I).mp (Classical.byContradiction (fun z => hv (if_neg z))))
        · rw [upI_k e1, e80] at hv; exact hE.2.2.2 t (by omega) hv
set_option maxRecDepth 100000 in
set_option maxHeartbeats 4000000 in
theorem l_ae3 {f : Nat} (I : pI) (J : pJ) (Q : pQ) (hf3 : f ≤ 3000) (hf : I 64 12 = nI f) : ∀ (m s : Nat) (g : Int32), s + m = f → (g = 0 ∨ g = 1) → (∀ r, ((r = 1 ∧ g = 1 ∧ ∀ t, s ≤ t → t < f → ¬ I 80 t = 0) ∨ (r = 0 ∧ ¬ (g = 1 ∧ ∀ t, s ≤ t → t < f → ¬ I 80 t = 0))) → Q (.inl (some (.int r))) 84 I J pRs) → PW m_X6_allEnd Q 89 [(0, .ref 64), (2, .int g), (3, .int (nI s))] [] 84 I J pRs 0 0 := by
  intro m
  induction m with
  | zero =>
    intro s g hsm hg hK
    refine pw_iload_n dX6_allEnd_89 rfl ?_
    refine pw_aload_n dX6_allEnd_90 rfl ?_
    refine pw_geti dX6_allEnd_91 fl_X6_171 rfl rfl (by decide) (by decide) ?_
    rw [hf]
    refine pw_icmp_ge (tgt := 122) dX6_allEnd_94 (by decide) (fun h94 => ?_) (fun h94 => ?_)
    · refine pw_iload_n dX6_allEnd_122 rfl ?_
      refine pw_iret dX6_allEnd_123 rfl (nb_01 hg) (by decide) (by decide) ?_
      rcases hg with rfl | rfl
      · exact hK 0 (Or.inr ⟨rfl, fun z => absurd z.1 (by decide)⟩)
      · exact hK 1 (Or.inl ⟨rfl, rfl, fun t h1 h2 => absurd h2 (by omega)⟩)
    · exact absurd (nI_le (a := f) (b := s) (by omega) (by omega)) h94
  | succ m ih =>
    intro s g hsm hg hK
    refine pw_iload_n dX6_allEnd_89 rfl ?_
    refine pw_aload_n dX6_allEnd_90 rfl ?_
    refine pw_geti dX6_allEnd_91 fl_X6_171 rfl rfl (by decide) (by decide) ?_
    rw [hf]
    refine pw_icmp_ge (tgt := 122) dX6_allEnd_94 (by decide) (fun h94 => ?_) (fun h94 => ?_)
    · exact absurd ((nI_leI (a := f) (b := s) (by omega) (by omega)).mp h94) (by omega)
    · refine pw_iload_n dX6_allEnd_97 rfl ?_
      refine pw_if_eq (tgt := 114) dX6_allEnd_98 (by decide) (fun h98 => ?_) (fun h98 => ?_)
      · refine pw_iconst (v := 0) dX6_allEnd_114 (by decide) ?_
        refine pw_istore_n dX6_allEnd_115 (by decide) ?_
        refine pw_iinc (v := nI (s + 1)) dX6_allEnd_116 rfl (by rw [nI_succ]; rfl) (by decide) ?_
        refine pw_goto (tgt := 89) dX6_allEnd_119 (by decide) ?_
        refine pw_loc (L' := [(0, .ref 64), (2, .int 0), (3, .int (nI (s + 1)))]) rfl ?_
        refine ih (s + 1) 0 (by omega) (Or.inl rfl) (fun r hr => hK r ?_)
        rcases hr with ⟨-, h1, -⟩ | ⟨hr, -⟩
        · exact absurd h1 (by decide)
        · exact Or.inr ⟨hr, fun z => absurd z.1 (by rw [h98]; decide)⟩
      · refine pw_aload_n dX6_allEnd_101 rfl ?_
        refine pw_getr dX6_allEnd_102 fl_X6_64 rfl rfl (by decide) (by decide) rfl ?_
        refine pw_iload_n dX6_allEnd_105 rfl ?_
        refine pw_zald dX6_allEnd_106 rfl (by decide) (by decide) (vp_in_nI (by omega) (by decide)) ?_
        rw [nI_clamp (show s < 2 ^ 31 by omega)]
        refine pw_if_eq (tgt := 114) dX6_allEnd_107 (by decide) (fun h107 => ?_) (fun h107 => ?_)
        · refine pw_iconst (v := 0) dX6_allEnd_114 (by decide) ?_
          refine pw_istore_n dX6_allEnd_115 (by decide) ?_
          refine pw_iinc (v := nI (s + 1)) dX6_allEnd_116 rfl (by rw [nI_succ]; rfl) (by decide) ?_
          refine pw_goto (tgt := 89) dX6_allEnd_119 (by decide) ?_
          refine pw_loc (L' := [(0, .ref 64), (2, .int 0), (3, .int (nI (s + 1)))]) rfl ?_
          refine ih (s + 1) 0 (by omega) (Or.inl rfl) (fun r hr => hK r ?_)
          rcases hr with ⟨-, h1, -⟩ | ⟨hr, -⟩
          · exact absurd h1 (by decide)
          · exact Or.inr ⟨hr, fun z => z.2 s (Nat.le_refl _) (by omega) h107⟩
        · refine pw_iconst (v := 1) dX6_allEnd_110 (by decide) ?_
          refine pw_goto (tgt := 115) dX6_allEnd_111 (by decide) ?_
          refine pw_istore_n dX6_allEnd_115 (by decide) ?_
          refine pw_iinc (v := nI (s + 1)) dX6_allEnd_116 rfl (by rw [nI_succ]; rfl) (by decide) ?_
          refine pw_goto (tgt := 89) dX6_allEnd_119 (by decide) ?_
          have hg1 : g = 1 := hg.resolve_left h98
          refine pw_loc (L' := [(0, .ref 64), (2, .int 1), (3, .int (nI (s + 1)))]) rfl ?_
          refine ih (s + 1) 1 (by omega) (Or.inr rfl) (fun r hr => hK r ?_)
          rcases hr with ⟨hr, -, h1⟩ | ⟨hr, h1⟩
          · refine Or.inl ⟨hr, hg1, fun t a b => ?_⟩
            by_cases e1 : t = s
            · subst e1; exact h107
            · exact h1 t (by omega) b
          · exact Or.inr ⟨hr, fun z => h1 ⟨rfl, fun t a b => z.2 t (by omega) b⟩⟩
theorem rvw {p : Prop} {I I' : pI} {J J' : pJ} (h : p ∧ I' = I ∧ J' = J) : p ∧ I = I' ∧ J = J' := ⟨h.1, h.2.1.symm, h.2.2.symm⟩
set_option maxRecDepth 100000 in
set_option maxHeartbeats 4000000 in
theorem l_ae4 {f : Nat} {ce ov : Nat → Prop} {to : Nat → Option Nat} {I0 : pI} (J : pJ) (Q : pQ) (hf3 : f ≤ 3000) (hct : ∀ s k u, k < 3 → to (3 * s + k) = some u → ce u → ce s) (hL : ∀ s, s < f → J 79 s = lN (ldN to s 3)) (hT : ∀ m t, m < 3 * f → to m = some t → t < 3000) (hTf : ∀ m t, m < 3 * f → to m = some t → t < f) {n0 : Nat} (hK : ∀ (I' : pI) (v : Int32), EW ce ov I0 I' f → (v = 0 ∨ v = 1) → (v = 0 → cntE I' 80 f = n0 ∧ ∀ t, 0 ≤ t → t < f → I' 80 t = 0 → ¬ ∃ k u, k < 3 ∧ to (3 * t + k) = some u ∧ ¬ I' 80 u = 0) → (v = 1 → n0 < cntE I' 80 f) → PW m_X6_allEnd Q 33 [(0, .ref 64), (1, .int v)] [] 84 I' J pRs 0 0) : ∀ (k : Nat), k ≤ f → ∀ (v : Int32) (I : pI), EW ce ov I0 I f → (v = 0 ∨ v = 1) → (v = 0 → cntE I 80 f = n0 ∧ ∀ t, k ≤ t → t < f → I 80 t = 0 → ¬ ∃ k u, k < 3 ∧ to (3 * t + k) = some u ∧ ¬ I 80 u = 0) → (v = 1 → n0 < cntE I 80 f) → PW m_X6_allEnd Q 46 [(0, .ref 64), (1, .int v), (2, .int (nI k + (-1)))] [] 84 I J pRs 0 0 := by
  intro k
  induction k with
  | zero =>
    intro hkf v I hE hv h0 h1
    refine pw_iload_n dX6_allEnd_46 rfl ?_
    refine pw_if_lt (tgt := 82) dX6_allEnd_47 (by decide) (fun h47 => ?_) (fun h47 => ?_)
    · refine pw_goto (tgt := 33) dX6_allEnd_82 (by decide) ?_
      refine pw_loc (L' := [(0, .ref 64), (1, .int v)]) rfl ?_
      exact hK I v hE hv h0 h1
    · exact absurd (show nI 0 + (-1) < 0 by decide) h47
  | succ k ih =>
    intro hkf v I hE hv h0 h1
    refine pw_iload_n dX6_allEnd_46 rfl ?_
    rw [pk_m1]
    refine pw_if_lt (tgt := 82) dX6_allEnd_47 (by decide) (fun h47 => ?_) (fun h47 => ?_)
    · refine pw_goto (tgt := 33) dX6_allEnd_82 (by decide) ?_
      exact absurd h47 (nI_pos (by omega))
    · refine pw_aload_n dX6_allEnd_50 rfl ?_
      refine pw_getr dX6_allEnd_51 fl_X6_64 rfl rfl (by decide) (by decide) rfl ?_
      refine pw_iload_n dX6_allEnd_54 rfl ?_
      refine pw_zald dX6_allEnd_55 rfl (by decide) (by decide) (vp_in_nI (by omega) (by decide)) ?_
      rw [nI_clamp (show k < 2 ^ 31 by omega)]
      refine pw_if_ne (tgt := 76) dX6_allEnd_56 (by decide) (fun h56 => ?_) (fun h56 => ?_)
      · refine pw_iinc (v := nI k + (-1)) dX6_allEnd_76 rfl rfl (by decide) ?_
        refine pw_goto (tgt := 46) dX6_allEnd_79 (by decide) ?_
        refine pw_loc (L' := [(0, .ref 64), (1, .int v), (2, .int (nI k + (-1)))]) rfl ?_
        refine ih (by omega) v I hE hv (fun z => ⟨(h0 z).1, fun t a b d => ?_⟩) h1
        by_cases e1 : t = k
        · subst e1; exact absurd d h56
        · exact (h0 z).2 t (by omega) b d
      · refine pw_aload_n dX6_allEnd_59 rfl ?_
        refine pw_iload_n dX6_allEnd_60 rfl ?_
        refine pw_cVi (ci := 6) (y := yX6_reaches) (cc := cX6_reaches) (nL := 6) (ret := (some .boolean)) (rm := { frames := 0, cells := 0, slots := 0, locals := 0 }) dX6_allEnd_61 (r_reaches (to := to) _ _ (by omega) (hL k (by omega)) (fun j t hj h => hT (3 * k + j) t (by omega) h) (hE.2.1 k (by omega))) w_X6_195 rfl (by decide) rfl ⟨by decide, by decide⟩ (by decide) (by decide) rfl (Nat.le_of_ble_eq_true rfl) (fun x61 I61 J61 q61 => ?_)
        obtain ⟨hr61, rfl, rfl⟩ := rvw q61
        refine pw_if_eq (tgt := 76) dX6_allEnd_64 (by decide) (fun h64 => ?_) (fun h64 => ?_)
        · refine pw_iinc (v := nI k + (-1)) dX6_allEnd_76 rfl rfl (by decide) ?_
          refine pw_goto (tgt := 46) dX6_allEnd_79 (by decide) ?_
          have hnr : ¬ ∃ j u, j < 3 ∧ to (3 * k + j) = some u ∧ ¬ I 80 u = 0 := by
            rcases hr61 with ⟨z, -⟩ | ⟨-, z⟩
            · rw [z] at h64; exact absurd h64 (by decide)
            · exact fun y => z (Or.inr y)
          refine pw_loc (L' := [(0, .ref 64), (1, .int v), (2, .int (nI k + (-1)))]) rfl ?_
          refine ih (by omega) v I hE hv (fun z => ⟨(h0 z).1, fun t a b d => ?_⟩) h1
          by_cases e1 : t = k
          · subst e1; exact hnr
          · exact (h0 z).2 t (by omega) b d
        · refine pw_aload_n dX6_allEnd_67 rfl ?_
          refine pw_getr dX6_allEnd_68 fl_X6_64 rfl rfl (by decide) (by decide) rfl ?_
          refine pw_iload_n dX6_allEnd_71 rfl ?_
          refine pw_iconst (v := 1) dX6_allEnd_72 (by decide) ?_
          refine pw_zast dX6_allEnd_73 rfl (by decide) (by decide) (vp_in_nI (by omega) (by decide)) rfl ?_
          rw [nI_clamp (show k < 2 ^ 31 by omega)]
          have hre : ∃ j u, j < 3 ∧ to (3 * k + j) = some u ∧ ¬ I 80 u = 0 := by
            rcases hr61 with ⟨-, z⟩ | ⟨z, -⟩
            · exact z.resolve_left (fun y => y h56)
            · exact absurd z h64
          refine pw_iconst (v := 1) dX6_allEnd_74 (by decide) ?_
          refine pw_istore_n dX6_allEnd_75 (by decide) ?_
          refine pw_iinc (v := nI k + (-1)) dX6_allEnd_76 rfl rfl (by decide) ?_
          refine pw_goto (tgt := 46) dX6_allEnd_79 (by decide) ?_
          refine pw_loc (L' := [(0, .ref 64), (1, .int 1), (2, .int (nI k + (-1)))]) rfl ?_
          obtain ⟨j, u, g1, g2, g3⟩ := hre
          have hup := cntE_up (I := I) (I' := upI I 80 k 1) (a := 80) (t := k) h56 (by rw [upI_s]; decide) (fun i hi => upI_k hi) f (by omega)
          refine ih (by omega) 1 _ ⟨hE.1.up, fun t ht => ?_, fun t ht hv => ?_, fun t ht hv => ?_⟩ (Or.inr rfl) (fun z => absurd z (by decide)) (fun _ => ?_)
          · by_cases e1 : t = k
            · subst e1; rw [upI_s]; exact Or.inr rfl
            · rw [upI_k e1]; exact hE.2.1 t ht
          · by_cases e1 : t = k
            · subst e1; rw [upI_s]; decide
            · rw [upI_k e1]; exact hE.2.2.1 t ht hv
          · by_cases e1 : t = k
            · subst e1; exact hct t j u g1 g2 (hE.2.2.2 u (hTf (3 * t + j) u (by omega) g2) g3)
            · rw [upI_k e1] at hv; exact hE.2.2.2 t ht hv
          · rcases hv with hv0 | hv1
            · have := (h0 hv0).1; omega
            · have := h1 hv1; omega
set_option maxRecDepth 100000 in
set_option maxHeartbeats 4000000 in
theorem l_ae2 {f : Nat} {ce ov : Nat → Prop} {to : Nat → Option Nat} {I0 : pI} (J : pJ) (Q : pQ) (hf3 : f ≤ 3000) (hct : ∀ s k u, k < 3 → to (3 * s + k) = some u → ce u → ce s) (hL : ∀ s, s < f → J 79 s = lN (ldN to s 3)) (hT : ∀ m t, m < 3 * f → to m = some t → t < 3000) (hTf : ∀ m t, m < 3 * f → to m = some t → t < f) (h0f : 0 < f) (hf : I0 64 12 = nI f) (hK : ∀ (I' : pI), EW ce ov I0 I' f → (∀ t, t < f → I' 80 t = 0 → ¬ ∃ k u, k < 3 ∧ to (3 * t + k) = some u ∧ ¬ I' 80 u = 0) → PW m_X6_allEnd Q 85 [(0, .ref 64)] [] 84 I' J pRs 0 0) : ∀ (d : Nat) (I : pI), d = f - cntE I 80 f → EW ce ov I0 I f → PW m_X6_allEnd Q 33 [(0, .ref 64), (1, .int 1)] [] 84 I J pRs 0 0 := by
  intro d
  induction d using Nat.strongRecOn with
  | ind d ih =>
  intro I hd hE
  refine pw_iload_n dX6_allEnd_33 rfl ?_
  refine pw_if_eq (tgt := 85) dX6_allEnd_34 (by decide) (fun h34 => ?_) (fun h34 => ?_)
  · exact absurd h34 (by decide)
  · refine pw_iconst (v := 0) dX6_allEnd_37 (by decide) ?_
    refine pw_istore_n dX6_allEnd_38 (by decide) ?_
    refine pw_aload_n dX6_allEnd_39 rfl ?_
    refine pw_geti dX6_allEnd_40 fl_X6_171 rfl rfl (by decide) (by decide) ?_
    rw [show I 64 12 = nI f by rw [hE.1 64 12 (by decide) (by decide) (by decide) (by decide) (by decide)]; exact hf]
    refine pw_iconst (v := 1) dX6_allEnd_43 (by decide) ?_
    refine pw_isub dX6_allEnd_44 ?_
    rw [show nI f - 1 = nI f + (-1) by obtain ⟨f', rfl⟩ : ∃ f', f = f' + 1 := ⟨f - 1, by omega⟩; rw [nI_pred, pk_m1]]
    refine pw_istore_n dX6_allEnd_45 (by decide) ?_
    refine pw_loc (L' := [(0, .ref 64), (1, .int 0), (2, .int (nI f + (-1)))]) rfl ?_
    refine l_ae4 (n0 := cntE I 80 f) J Q hf3 hct hL hT hTf (fun I' v hE' hv g0 g1 => ?_) f (Nat.le_refl _) 0 I hE (Or.inl rfl) (fun _ => ⟨rfl, fun t a b => absurd b (by omega)⟩) (fun z => absurd z (by decide))
    rcases hv with rfl | rfl
    · refine pw_iload_n dX6_allEnd_33 rfl ?_
      refine pw_if_eq (tgt := 85) dX6_allEnd_34 (by decide) (fun h34 => ?_) (fun h34 => ?_)
      · refine pw_loc (L' := [(0, .ref 64)]) rfl ?_
        exact hK I' hE' (fun t ht => (g0 rfl).2 t (Nat.zero_le _) ht)
      · exact absurd rfl h34
    · exact ih _ (by have := g1 rfl; have := cntE_le (I := I') (a := 80) f; omega) I' rfl hE'
set_option maxRecDepth 100000 in
set_option maxHeartbeats 4000000 in
theorem r_allEnd {c f : Nat} {to : Nat → Option Nat} {C : pI} {JC : pJ} (I : pI) (J : pJ) (hc : c ≤ 3) (h0f : 0 < f) (h : JRow to C JC I J c f f) : pMet yX6_allEnd (pws yX6_allEnd cX6_allEnd 4 (some .boolean)) { frames := 2, cells := 0, slots := 0, locals := 48 } [.ref 64] 84 I J pRs (pOi (fun r I' J' => ((r = 1 ∧ ∀ s, s < f → CE (fun t => orL JC t c 0 0 = 0) to s) ∨ (r = 0 ∧ ¬ ∀ s, s < f → CE (fun t => orL JC t c 0 0 = 0) to s)) ∧ OF I I' ∧ J' = J)) := by
  obtain ⟨⟨-, ⟨-, hcI⟩, ⟨hf3, -, hfI⟩, -⟩, hR, -, -, ⟨h60, h61⟩, hL, -⟩ := id h
  refine pMet_of (by decide) (Nat.le_of_ble_eq_true rfl) ?_
  refine pw_iconst (v := 0) dX6_allEnd_0 (by decide) ?_
  refine pw_istore_n dX6_allEnd_1 (by decide) ?_
  refine pw_loc (L' := [(0, .ref 64), (1, .int (nI 0))]) rfl ?_
  refine l_ae1 (ce := CE (fun t => orL JC t c 0 0 = 0) to) (ov := (fun t => orL JC t c 0 0 = 0)) (I0 := I) J _ hf3 hc hfI hcI (fun t ht K => ov_alike hc hR ht) (fun t z => CE.ov z) (fun I1 hE1 => ?_) f 0 I (by omega) ⟨fun _ _ _ _ _ _ _ => rfl, fun t ht => absurd ht (by omega), fun t ht => absurd ht (by omega), fun t ht => absurd ht (by omega)⟩
  refine pw_iconst (v := 1) dX6_allEnd_31 (by decide) ?_
  refine pw_istore_n dX6_allEnd_32 (by decide) ?_
  refine pw_loc (L' := [(0, .ref 64), (1, .int 1)]) rfl ?_
  refine l_ae2 (ov := (fun t => orL JC t c 0 0 = 0)) (to := to) (I0 := I) J _ hf3 (fun s k u hk h hu => CE.to hk h hu) hL (fun m t h1 h2 => by have := (h61 m t h1 h2).1; omega) (fun m t h1 h2 => (h61 m t h1 h2).1) h0f hfI (fun I2 hE2 hC2 => ?_) _ I1 rfl hE1
  have hfull : ∀ s, s < f → (¬ I2 80 s = 0 ↔ CE (fun t => orL JC t c 0 0 = 0) to s) := fun s hs => ⟨fun z => hE2.2.2.2 s hs z, fun z => z (fun t => t < f → ¬ I2 80 t = 0) (fun t h ht => hE2.2.2.1 t ht h) (fun t k u hk hto hu ht z9 => hC2 t ht z9 ⟨k, u, hk, hto, hu (h61 (3 * t + k) u (by omega) hto).1⟩) hs⟩
  refine pw_iconst (v := 1) dX6_allEnd_85 (by decide) ?_
  refine pw_istore_n dX6_allEnd_86 (by decide) ?_
  refine pw_iconst (v := 0) dX6_allEnd_87 (by decide) ?_
  refine pw_istore_n dX6_allEnd_88 (by decide) ?_
  refine pw_loc (L' := [(0, .ref 64), (2, .int 1), (3, .int (nI 0))]) rfl ?_
  refine l_ae3 (f := f) I2 J _ hf3 (by rw [hE2.1 64 12 (by decide) (by decide) (by decide) (by decide) (by decide)]; exact hfI) f 0 1 (by omega) (Or.inr rfl) (fun r hr => ⟨r, rfl, rfl, rfl, ?_, hE2.1, rfl⟩)
  rcases hr with ⟨e, -, h1⟩ | ⟨e, h1⟩
  · exact Or.inl ⟨e, fun s hs => (hfull s hs).mp (h1 s (Nat.zero_le _) hs)⟩
  · exact Or.inr ⟨e, fun z => h1 ⟨rfl, fun t _ ht => (hfull t ht).mpr (z t ht)⟩⟩
