/-! THE TRAILS -/
/-- the way back from s: array a holds d * (state before) + process -/
def pth (I : pI) (a d : Nat) : Nat → Nat → List Nat
  | 0, _ => []
  | n + 1, s => if s = 0 then [] else ((I a s).toNatClampNeg % d) :: pth I a d n ((I a s).toNatClampNeg / d)
def JP (I : pI) (a d f : Nat) : Prop := ∀ s, 0 < s → s < f → ∃ m, m / d < s ∧ m < 12000 ∧ I a s = nI m
theorem pth_len {I : pI} {a d f : Nat} (h : JP I a d f) : ∀ n s, s < f → (pth I a d n s).length ≤ s := by
  intro n
  induction n with
  | zero => intro s _; exact Nat.zero_le _
  | succ n ih =>
    intro s hs
    rw [pth]
    split
    · exact Nat.zero_le _
    · obtain ⟨m, h1, h2, h3⟩ := h s (by omega) hs
      rw [h3, nI_clamp (by omega), List.length_cons]
      have := ih (m / d) (by omega)
      omega
theorem pth_eq {I K : pI} {f : Nat} (hf : f ≤ 3000) (h : JF I K f) : ∀ n s, s < f → pth I 59 3 n s = pth K 78 4 n s := by
  intro n
  induction n with
  | zero => intro s _; rfl
  | succ n ih =>
    intro s hs
    rw [pth, pth]
    by_cases e : s = 0
    · rw [if_pos e, if_pos e]
    · obtain ⟨s0, k, h1, h2, h3, h4⟩ := h s (by omega) hs
      rw [if_neg e, if_neg e, h3, h4]
      by_cases hb : s0 < 100000
      · rw [nI_clamp (by omega), nI_clamp (by omega), show (3 * s0 + k) % 3 = (4 * s0 + k) % 4 by omega, show (3 * s0 + k) / 3 = s0 by omega, show (4 * s0 + k) / 4 = s0 by omega, ih s0 (by omega)]
      · exact absurd h1 (by have := hf; omega)
theorem JF.C {I K : pI} {f : Nat} (hf : f ≤ 3000) (h : JF I K f) : JP I 59 3 f ∧ JP K 78 4 f := by
  refine ⟨fun s h1 h2 => ?_, fun s h1 h2 => ?_⟩ <;> obtain ⟨s0, k, a1, a2, a3, a4⟩ := h s h1 h2
  · exact ⟨3 * s0 + k, by omega, by omega, a3⟩
  · exact ⟨4 * s0 + k, by omega, by omega, a4⟩
theorem getD_c (x : Nat) (L : List Nat) (j : Nat) : (x :: L).getD (j + 1) 0 = L.getD j 0 := by simp [List.getD]
theorem getD_0 (x : Nat) (L : List Nat) : (x :: L).getD 0 0 = x := by simp [List.getD]
abbrev m_X3_keepTrail : pT := (yX3_keepTrail.cls, cX3_keepTrail, 4, none, { frames := 0, cells := 0, slots := 0, locals := 0 }, [], none)
theorem pth_congr {I I' : pI} {a d : Nat} (h : ∀ s, I' a s = I a s) : ∀ b s, pth I' a d b s = pth I a d b s := by
  intro b
  induction b with
  | zero => intro s; rfl
  | succ b ih => intro s; rw [pth, pth, h, ih]
set_option maxRecDepth 100000 in
set_option maxHeartbeats 4000000 in
theorem l_kt1 {f : Nat} (hf : f ≤ 3000) (J : pJ) (Q : pQ) : ∀ (s n b : Nat) (I : pI) (L : List Nat), s < f → s ≤ b → n + s ≤ 3000 → JP I 59 3 f → L = pth I 59 3 b s → (∀ I', (∀ j, j < L.length → I' 49 (n + j) = nI (L.getD j 0)) → (∀ j, j < n → I' 49 j = I 49 j) → (∀ a k, a ≠ 49 → I' a k = I a k) → PW m_X3_keepTrail Q 49 [(0, .ref 48), (1, .int (nI (n + L.length)))] [] 84 I' J pRs 0 0) → PW m_X3_keepTrail Q 9 [(0, .ref 48), (1, .int (nI n)), (2, .int (nI s))] [] 84 I J pRs 0 0 := by
  intro s
  induction s using Nat.strongRecOn with
  | ind s ih =>
  intro n b I L hs hb hn hP hL hK
  refine pw_iload_n dX3_keepTrail_9 rfl ?_
  refine pw_if_le (tgt := 49) dX3_keepTrail_10 (by decide) (fun h10 => ?_) (fun h10 => ?_)
  · have hs0 : s = 0 := Nat.eq_zero_of_not_pos (fun z => absurd h10 (Int32.not_le.mpr (nI_lt (a := 0) (b := s) z (by omega))))
    have e9 : L = [] := by rw [hL]; cases b with
      | zero => rfl
      | succ b => rw [pth, if_pos hs0]
    subst e9
    refine pw_loc (L' := [(0, .ref 48), (1, .int (nI n))]) rfl ?_
    exact hK I (fun j hj => absurd hj (Nat.not_lt_zero _)) (fun _ _ => rfl) (fun _ _ _ => rfl)
  · have hs0 : 0 < s := Nat.pos_of_ne_zero (fun z => h10 (by rw [z]; decide))
    obtain ⟨b', rfl⟩ : ∃ b', b = b' + 1 := ⟨b - 1, by omega⟩
    obtain ⟨q, hq1, hq2, hq3⟩ := hP s hs0 hs
    have hq4 : I 59 s = nI q := hq3
    have eL : L = (q % 3) :: pth I 59 3 b' (q / 3) := by rw [hL, pth, if_neg (by omega), hq4, nI_clamp (by omega)]
    refine pw_iload_n dX3_keepTrail_13 rfl ?_
    refine pw_sipush (v := 3000) dX3_keepTrail_14 (by decide) ?_
    refine pw_icmp_ge (tgt := 49) dX3_keepTrail_17 (by decide) (fun h17 => ?_) (fun h17 => ?_)
    · exact absurd ((nI_leI (a := 3000) (b := n) (by decide) (by omega)).mp h17) (by omega)
    · refine pw_aload_n dX3_keepTrail_20 rfl ?_
      refine pw_getr dX3_keepTrail_21 fl_X3_11 rfl rfl (by decide) (by decide) rfl ?_
      refine pw_iload_n dX3_keepTrail_24 rfl ?_
      refine pw_aload_n dX3_keepTrail_25 rfl ?_
      refine pw_getr dX3_keepTrail_26 fl_X3_35 rfl rfl (by decide) (by decide) rfl ?_
      refine pw_iload_n dX3_keepTrail_29 rfl ?_
      refine pw_iald dX3_keepTrail_30 rfl (by decide) (by decide) (vp_in_nI (by omega) (by decide)) ?_
      rw [nI_clamp (show s < 2 ^ 31 by omega)]
      rw [hq4]
      refine pw_iconst (v := 3) dX3_keepTrail_31 (by decide) ?_
      refine pw_irem dX3_keepTrail_32 (by decide) ?_
      rw [show (3 : Int32) = nI 3 by decide, pk_rem (by omega) (by decide) (by decide)]
      refine pw_iast dX3_keepTrail_33 rfl (by decide) (by decide) (vp_in_nI (by omega) (by decide)) ?_
      rw [nI_clamp (show n < 2 ^ 31 by omega)]
      refine pw_iinc (v := nI (n + 1)) dX3_keepTrail_34 rfl (by rw [nI_succ]; rfl) (by decide) ?_
      refine pw_aload_n dX3_keepTrail_37 rfl ?_
      refine pw_getr dX3_keepTrail_38 fl_X3_35 rfl rfl (by decide) (by decide) rfl ?_
      refine pw_iload_n dX3_keepTrail_41 rfl ?_
      refine pw_iald dX3_keepTrail_42 rfl (by decide) (by decide) (vp_in_nI (by omega) (by decide)) ?_
      rw [nI_clamp (show s < 2 ^ 31 by omega)]
      rw [upI_a (by decide), hq4]
      refine pw_iconst (v := 3) dX3_keepTrail_43 (by decide) ?_
      refine pw_idiv dX3_keepTrail_44 (by decide) ?_
      rw [show (3 : Int32) = nI 3 by decide, pk_div (by omega) (by decide) (by decide)]
      refine pw_istore_n dX3_keepTrail_45 (by decide) ?_
      refine pw_goto (tgt := 9) dX3_keepTrail_46 (by decide) ?_
      refine pw_loc (L' := [(0, .ref 48), (1, .int (nI (n + 1))), (2, .int (nI (q / 3)))]) rfl ?_
      have hP2 : JP (upI I 49 n (nI (q % 3))) 59 3 f := fun s h1 h2 => by rw [upI_a (by decide)]; exact hP s h1 h2
      have eP : ∀ b s, pth (upI I 49 n (nI (q % 3))) 59 3 b s = pth I 59 3 b s := fun b s => pth_congr (fun s => upI_a (by decide)) b s
      refine ih (q / 3) (by omega) (n + 1) b' _ (pth I 59 3 b' (q / 3)) (by omega) (by omega) (by omega) hP2 (eP _ _).symm (fun I' g1 g2 g3 => ?_)
      have e9 : n + 1 + (pth I 59 3 b' (q / 3)).length = n + L.length := by rw [eL, List.length_cons]; omega
      rw [e9]
      refine hK I' (fun j hj => ?_) (fun j hj => ?_) (fun a k ha => ?_)
      · rw [eL]
        rcases j with _ | j
        · rw [getD_0, Nat.add_zero, g2 n (by omega), upI_s]
        · rw [getD_c, ← g1 j (by rw [eL, List.length_cons] at hj; omega), show n + (j + 1) = n + 1 + j by omega]
      · rw [g2 j (by omega), upI_k (by omega)]
      · rw [g3 a k ha, upI_a ha]
set_option maxRecDepth 100000 in
set_option maxHeartbeats 4000000 in
theorem l_kt2 {n : Nat} (hn : n ≤ 3000) (L : List Nat) (J : pJ) (Q : pQ) : ∀ (m i : Nat) (I : pI), i + m = n / 2 → (∀ j, j < n → (j < i ∨ n - i ≤ j) → I 49 j = nI (L.getD (n - 1 - j) 0)) → (∀ j, i ≤ j → j < n - i → I 49 j = nI (L.getD j 0)) → (∀ I', (∀ j, j < n → I' 49 j = nI (L.getD (n - 1 - j) 0)) → (∀ a k, a ≠ 49 → I' a k = I a k) → PW m_X3_keepTrail Q 98 [(0, .ref 48), (1, .int (nI n))] [] 84 I' J pRs 0 0) → PW m_X3_keepTrail Q 51 [(0, .ref 48), (1, .int (nI n)), (2, .int (nI i))] [] 84 I J pRs 0 0 := by
  intro m
  induction m with
  | zero =>
    intro i I hi h1 h2 hK
    refine pw_iload_n dX3_keepTrail_51 rfl ?_
    refine pw_iload_n dX3_keepTrail_52 rfl ?_
    refine pw_iconst (v := 2) dX3_keepTrail_53 (by decide) ?_
    refine pw_idiv dX3_keepTrail_54 (by decide) ?_
    rw [show (2 : Int32) = nI 2 by decide, pk_div (by omega) (by decide) (by decide)]
    refine pw_icmp_ge (tgt := 98) dX3_keepTrail_55 (by decide) (fun h55 => ?_) (fun h55 => ?_)
    · refine pw_loc (L' := [(0, .ref 48), (1, .int (nI n))]) rfl ?_
      refine hK I (fun j hj => ?_) (fun _ _ _ => rfl)
      rcases Nat.lt_or_ge j i with h | h
      · exact h1 j hj (Or.inl h)
      · rcases Nat.lt_or_ge j (n - i) with h' | h'
        · rw [h2 j h h', show n - 1 - j = j by omega]
        · exact h1 j hj (Or.inr h')
    · exact absurd (nI_le (a := n / 2) (b := i) (by omega) (by omega)) h55
  | succ m ih =>
    intro i I hi h1 h2 hK
    refine pw_iload_n dX3_keepTrail_51 rfl ?_
    refine pw_iload_n dX3_keepTrail_52 rfl ?_
    refine pw_iconst (v := 2) dX3_keepTrail_53 (by decide) ?_
    refine pw_idiv dX3_keepTrail_54 (by decide) ?_
    rw [show (2 : Int32) = nI 2 by decide, pk_div (by omega) (by decide) (by decide)]
    refine pw_icmp_ge (tgt := 98) dX3_keepTrail_55 (by decide) (fun h55 => ?_) (fun h55 => ?_)
    · exact absurd ((nI_leI (a := n / 2) (b := i) (by omega) (by omega)).mp h55) (by omega)
    · refine pw_aload_n dX3_keepTrail_58 rfl ?_
      refine pw_getr dX3_keepTrail_59 fl_X3_11 rfl rfl (by decide) (by decide) rfl ?_
      refine pw_iload_n dX3_keepTrail_62 rfl ?_
      refine pw_iald dX3_keepTrail_63 rfl (by decide) (by decide) (vp_in_nI (by omega) (by decide)) ?_
      rw [nI_clamp (show i < 2 ^ 31 by omega)]
      refine pw_istore_n dX3_keepTrail_64 (by decide) ?_
      refine pw_aload_n dX3_keepTrail_65 rfl ?_
      refine pw_getr dX3_keepTrail_66 fl_X3_11 rfl rfl (by decide) (by decide) rfl ?_
      refine pw_iload_n dX3_keepTrail_69 rfl ?_
      refine pw_aload_n dX3_keepTrail_70 rfl ?_
      refine pw_getr dX3_keepTrail_71 fl_X3_11 rfl rfl (by decide) (by decide) rfl ?_
      refine pw_iload_n dX3_keepTrail_74 rfl ?_
      refine pw_iconst (v := 1) dX3_keepTrail_75 (by decide) ?_
      refine pw_isub dX3_keepTrail_76 ?_
      refine pw_iload_n dX3_keepTrail_77 rfl ?_
      refine pw_isub dX3_keepTrail_78 ?_
      rw [show nI n - 1 - nI i = nI (n - 1 - i) by rw [show (1 : Int32) = nI 1 by decide, pk_sub (by omega), pk_sub (by omega)]]
      refine pw_iald dX3_keepTrail_79 rfl (by decide) (by decide) (vp_in_nI (by omega) (by decide)) ?_
      rw [nI_clamp (show n - 1 - i < 2 ^ 31 by omega)]
      refine pw_iast dX3_keepTrail_80 rfl (by decide) (by decide) (vp_in_nI (by omega) (by decide)) ?_
      rw [nI_clamp (show i < 2 ^ 31 by omega)]
      refine pw_aload_n dX3_keepTrail_81 rfl ?_
      refine pw_getr dX3_keepTrail_82 fl_X3_11 rfl rfl (by decide) (by decide) rfl ?_
      refine pw_iload_n dX3_keepTrail_85 rfl ?_
      refine pw_iconst (v := 1) dX3_keepTrail_86 (by decide) ?_
      refine pw_isub dX3_keepTrail_87 ?_
      refine pw_iload_n dX3_keepTrail_88 rfl ?_
      refine pw_isub dX3_keepTrail_89 ?_
      rw [show nI n - 1 - nI i = nI (n - 1 - i) by rw [show (1 : Int32) = nI 1 by decide, pk_sub (by omega), pk_sub (by omega)]]
      refine pw_iload_n dX3_keepTrail_90 rfl ?_
      refine pw_iast dX3_keepTrail_91 rfl (by decide) (by decide) (vp_in_nI (by omega) (by decide)) ?_
      rw [nI_clamp (show n - 1 - i < 2 ^ 31 by omega)]
      refine pw_iinc (v := nI (i + 1)) dX3_keepTrail_92 rfl (by rw [nI_succ]; rfl) (by decide) ?_
      refine pw_goto (tgt := 51) dX3_keepTrail_95 (by decide) ?_
      refine pw_loc (L' := [(0, .ref 48), (1, .int (nI n)), (2, .int (nI (i + 1)))]) rfl ?_
      refine ih (i + 1) _ (by omega) (fun j hj hh => ?_) (fun j ha hb => ?_) (fun I' g1 g2 => hK I' g1 (fun a k ha => by rw [g2 a k ha, upI_a ha, upI_a ha]))
      · by_cases e1 : j = n - 1 - i
        · subst e1
          rw [upI_s, h2 i (by omega) (by omega), show n - 1 - (n - 1 - i) = i by omega]
        · rw [upI_k e1]
          by_cases e2 : j = i
          · subst e2
            rw [upI_s, h2 (n - 1 - j) (by omega) (by omega)]
          · rw [upI_k e2]
            exact h1 j hj (by omega)
      · rw [upI_k (by omega), upI_k (by omega)]
        exact h2 j (by omega) (by omega)
set_option maxRecDepth 100000 in
set_option maxHeartbeats 4000000 in
theorem c_keepTrail {f : Nat} (I : pI) (J : pJ) (h0 : 0 < f) (hf3 : f ≤ 3000) (hf : I 48 2 = nI f) (hP : JP I 59 3 f) : pMet yX3_keepTrail (pws yX3_keepTrail cX3_keepTrail 4 none) { frames := 0, cells := 0, slots := 0, locals := 0 } [.ref 48] 84 I J pRs (pOv (fun I' J' => I' 48 1 = nI (pth I 59 3 f (f - 1)).length ∧ (∀ j, j < (pth I 59 3 f (f - 1)).length → I' 49 j = nI ((pth I 59 3 f (f - 1)).getD ((pth I 59 3 f (f - 1)).length - 1 - j) 0)) ∧ (∀ a k, a ≠ 49 → (a ≠ 48 ∨ k ≠ 1) → I' a k = I a k) ∧ J' = J)) := by
  refine pMet_of (by decide) (Nat.le_of_ble_eq_true rfl) ?_
  refine pw_iconst (v := 0) dX3_keepTrail_0 (by decide) ?_
  refine pw_istore_n dX3_keepTrail_1 (by decide) ?_
  refine pw_aload_n dX3_keepTrail_2 rfl ?_
  refine pw_geti dX3_keepTrail_3 fl_X3_55 rfl rfl (by decide) (by decide) ?_
  rw [hf]
  refine pw_iconst (v := 1) dX3_keepTrail_6 (by decide) ?_
  refine pw_isub dX3_keepTrail_7 ?_
  rw [show nI f - 1 = nI (f - 1) by rw [show (1 : Int32) = nI 1 by decide, pk_sub (by omega)]]
  refine pw_istore_n dX3_keepTrail_8 (by decide) ?_
  refine pw_loc (L' := [(0, .ref 48), (1, .int (nI 0)), (2, .int (nI (f - 1)))]) rfl ?_
  refine l_kt1 hf3 J _ (f - 1) 0 f I (pth I 59 3 f (f - 1)) (by omega) (by omega) (by omega) hP rfl (fun I' g1 g2 g3 => ?_)
  have hlen := pth_len hP f (f - 1) (by omega)
  revert g1 hlen
  generalize pth I 59 3 f (f - 1) = L
  intro g1 hlen
  rw [Nat.zero_add]
  refine pw_iconst (v := 0) dX3_keepTrail_49 (by decide) ?_
  refine pw_istore_n dX3_keepTrail_50 (by decide) ?_
  refine pw_loc (L' := [(0, .ref 48), (1, .int (nI L.length)), (2, .int (nI 0))]) rfl ?_
  refine l_kt2 (by omega) L J _ (L.length / 2) 0 I' (by omega) (fun j hj hh => absurd hh (by omega)) (fun j _ hj => by have := g1 j (by omega); rw [Nat.zero_add] at this; exact this) (fun I2 g4 g5 => ?_)
  refine pw_aload_n dX3_keepTrail_98 rfl ?_
  refine pw_iload_n dX3_keepTrail_99 rfl ?_
  refine pw_puti dX3_keepTrail_100 fl_X3_70 rfl rfl rfl rfl rfl (by decide) (by decide) ?_
  refine pw_vret dX3_keepTrail_103 rfl (by decide) (by decide) ?_
  refine ⟨rfl, rfl, rfl, upI_s _ _ _ _, fun j hj => by rw [upI_a (by decide)]; exact g4 j hj, fun a k ha hk => ?_, rfl⟩
  have e9 : upI I2 48 1 (nI L.length) a k = I2 a k := hk.elim (fun h => upI_a h) (fun h => upI_k h)
  rw [e9, g5 a k ha, g3 a k ha]
abbrev m_X6_goBack : pT := (yX6_goBack.cls, cX6_goBack, 2, none, { frames := 0, cells := 0, slots := 0, locals := 0 }, [], none)
set_option maxRecDepth 100000 in
set_option maxHeartbeats 4000000 in
theorem l_gb {f : Nat} (hf : f ≤ 3000) (J : pJ) (Q : pQ) : ∀ (s n b : Nat) (I : pI) (L : List Nat), s < f → s ≤ b → n + s ≤ 3000 → JP I 78 4 f → I 64 21 = nI n → L = pth I 78 4 b s → (∀ I', I' 64 21 = nI (n + L.length) → (∀ j, j < L.length → I' 82 (n + j) = nI (L.getD j 0)) → (∀ j, j < n → I' 82 j = I 82 j) → (∀ a k, a ≠ 82 → (a ≠ 64 ∨ k ≠ 21) → I' a k = I a k) → Q (.inl none) 84 I' J pRs) → PW m_X6_goBack Q 7 [(0, .ref 64), (1, .int (nI s))] [] 84 I J pRs 0 0 := by
  intro s
  induction s using Nat.strongRecOn with
  | ind s ih =>
  intro n b I L hs hb hn hP h21 hL hK
  refine pw_iload_n dX6_goBack_7 rfl ?_
  refine pw_if_le (tgt := 50) dX6_goBack_8 (by decide) (fun h8 => ?_) (fun h8 => ?_)
  · refine pw_vret dX6_goBack_50 rfl (by decide) (by decide) ?_
    have hs0 : s = 0 := Nat.eq_zero_of_not_pos (fun z => absurd h8 (Int32.not_le.mpr (nI_lt (a := 0) (b := s) z (by omega))))
    have e9 : L = [] := by rw [hL]; cases b with
      | zero => rfl
      | succ b => rw [pth, if_pos hs0]
    subst e9
    exact hK I h21 (fun j hj => absurd hj (Nat.not_lt_zero _)) (fun _ _ => rfl) (fun _ _ _ _ => rfl)
  · have hs0 : 0 < s := Nat.pos_of_ne_zero (fun z => h8 (by rw [z]; decide))
    obtain ⟨b', rfl⟩ : ∃ b', b = b' + 1 := ⟨b - 1, by omega⟩
    obtain ⟨q, hq1, hq2, hq3⟩ := hP s hs0 hs
    have hq4 : I 78 s = nI q := hq3
    have eL : L = (q % 4) :: pth I 78 4 b' (q / 4) := by rw [hL, pth, if_neg (by omega), hq4, nI_clamp (by omega)]
    refine pw_aload_n dX6_goBack_11 rfl ?_
    refine pw_getr dX6_goBack_12 fl_X6_70 rfl rfl (by decide) (by decide) rfl ?_
    refine pw_aload_n dX6_goBack_15 rfl ?_
    refine pw_geti dX6_goBack_16 fl_X6_198 rfl rfl (by decide) (by decide) ?_
    rw [h21]
    refine pw_aload_n dX6_goBack_19 rfl ?_
    refine pw_getr dX6_goBack_20 fl_X6_58 rfl rfl (by decide) (by decide) rfl ?_
    refine pw_iload_n dX6_goBack_23 rfl ?_
    refine pw_iald dX6_goBack_24 rfl (by decide) (by decide) (vp_in_nI (by omega) (by decide)) ?_
    rw [nI_clamp (show s < 2 ^ 31 by omega)]
    rw [hq4]
    refine pw_iconst (v := 4) dX6_goBack_25 (by decide) ?_
    refine pw_irem dX6_goBack_26 (by decide) ?_
    rw [show (4 : Int32) = nI 4 by decide, pk_rem (by omega) (by decide) (by decide)]
    refine pw_iast dX6_goBack_27 rfl (by decide) (by decide) (vp_in_nI (by omega) (by decide)) ?_
    rw [nI_clamp (show n < 2 ^ 31 by omega)]
    refine pw_aload_n dX6_goBack_28 rfl ?_
    refine pw_dup dX6_goBack_29 rfl ?_
    refine pw_geti dX6_goBack_30 fl_X6_198 rfl rfl (by decide) (by decide) ?_
    rw [upI_a (by decide), h21]
    refine pw_iconst (v := 1) dX6_goBack_33 (by decide) ?_
    refine pw_iadd dX6_goBack_34 ?_
    rw [nI_1]
    refine pw_puti dX6_goBack_35 fl_X6_198 rfl rfl rfl rfl rfl (by decide) (by decide) ?_
    refine pw_aload_n dX6_goBack_38 rfl ?_
    refine pw_getr dX6_goBack_39 fl_X6_58 rfl rfl (by decide) (by decide) rfl ?_
    refine pw_iload_n dX6_goBack_42 rfl ?_
    refine pw_iald dX6_goBack_43 rfl (by decide) (by decide) (vp_in_nI (by omega) (by decide)) ?_
    rw [nI_clamp (show s < 2 ^ 31 by omega)]
    rw [upI_a (by decide), upI_a (by decide), hq4]
    refine pw_iconst (v := 4) dX6_goBack_44 (by decide) ?_
    refine pw_idiv dX6_goBack_45 (by decide) ?_
    rw [show (4 : Int32) = nI 4 by decide, pk_div (by omega) (by decide) (by decide)]
    refine pw_istore_n dX6_goBack_46 (by decide) ?_
    refine pw_goto (tgt := 7) dX6_goBack_47 (by decide) ?_
    refine pw_loc (L' := [(0, .ref 64), (1, .int (nI (q / 4)))]) rfl ?_
    have eo : ∀ s, upI (upI I 82 n (nI (q % 4))) 64 21 (nI (n + 1)) 78 s = I 78 s := fun s => by rw [upI_a (by decide), upI_a (by decide)]
    have hP2 : JP (upI (upI I 82 n (nI (q % 4))) 64 21 (nI (n + 1))) 78 4 f := fun s h1 h2 => by rw [eo]; exact hP s h1 h2
    refine ih (q / 4) (by omega) (n + 1) b' _ (pth I 78 4 b' (q / 4)) (by omega) (by omega) (by omega) hP2 (upI_s _ _ _ _) (pth_congr eo _ _).symm (fun I' g0 g1 g2 g3 => ?_)
    have e9 : n + 1 + (pth I 78 4 b' (q / 4)).length = n + L.length := by rw [eL, List.length_cons]; omega
    rw [e9] at g0
    refine hK I' g0 (fun j hj => ?_) (fun j hj => ?_) (fun a k ha hk => ?_)
    · rw [eL]
      rcases j with _ | j
      · rw [getD_0, Nat.add_zero, g2 n (by omega), upI_a (by decide), upI_s]
      · rw [getD_c, ← g1 j (by rw [eL, List.length_cons] at hj; omega), show n + (j + 1) = n + 1 + j by omega]
    · rw [g2 j (by omega), upI_a (by decide), upI_k (by omega)]
    · rw [g3 a k ha hk]
      have e8 : upI (upI I 82 n (nI (q % 4))) 64 21 (nI (n + 1)) a k = upI I 82 n (nI (q % 4)) a k := hk.elim (fun h => upI_a h) (fun h => upI_k h)
      rw [e8, upI_a ha]
set_option maxRecDepth 100000 in
set_option maxHeartbeats 4000000 in
theorem r_goBack {f : Nat} (I : pI) (J : pJ) (h0 : 0 < f) (hf3 : f ≤ 3000) (hf : I 64 12 = nI f) (h21 : I 64 21 = 0) (hP : JP I 78 4 f) : pMet yX6_goBack (pws yX6_goBack cX6_goBack 2 none) { frames := 0, cells := 0, slots := 0, locals := 0 } [.ref 64] 84 I J pRs (pOv (fun I' J' => I' 64 21 = nI (pth I 78 4 f (f - 1)).length ∧ (∀ j, j < (pth I 78 4 f (f - 1)).length → I' 82 j = nI ((pth I 78 4 f (f - 1)).getD j 0)) ∧ (∀ a k, a ≠ 82 → (a ≠ 64 ∨ k ≠ 21) → I' a k = I a k) ∧ J' = J)) := by
  refine pMet_of (by decide) (Nat.le_of_ble_eq_true rfl) ?_
  refine pw_aload_n dX6_goBack_0 rfl ?_
  refine pw_geti dX6_goBack_1 fl_X6_171 rfl rfl (by decide) (by decide) ?_
  rw [hf]
  refine pw_iconst (v := 1) dX6_goBack_4 (by decide) ?_
  refine pw_isub dX6_goBack_5 ?_
  rw [show nI f - 1 = nI (f - 1) by rw [show (1 : Int32) = nI 1 by decide, pk_sub (by omega)]]
  refine pw_istore_n dX6_goBack_6 (by decide) ?_
  refine pw_loc (L' := [(0, .ref 64), (1, .int (nI (f - 1)))]) rfl ?_
  refine l_gb hf3 J _ (f - 1) 0 f I (pth I 78 4 f (f - 1)) (by omega) (by omega) (by omega) hP (h21.trans rfl) rfl (fun I' g0 g1 g2 g3 => ?_)
  refine ⟨rfl, rfl, rfl, ?_, fun j hj => ?_, g3, rfl⟩
  · rw [g0, Nat.zero_add]
  · rw [← g1 j hj, Nat.zero_add]
