/-! THE STATES THAT CAN END -/
/-- the least set that holds the states where all is over, and with a state those that lead there -/
def CE (ov : Nat → Prop) (to : Nat → Option Nat) (s : Nat) : Prop := ∀ S : Nat → Prop, (∀ t, ov t → S t) → (∀ t k u, k < 3 → to (3 * t + k) = some u → S u → S t) → S s
theorem CE.ov {ov : Nat → Prop} {to : Nat → Option Nat} {s : Nat} (h : ov s) : CE ov to s := fun _ h1 _ => h1 s h
theorem CE.to {ov : Nat → Prop} {to : Nat → Option Nat} {s k u : Nat} (hk : k < 3) (h : to (3 * s + k) = some u) (hu : CE ov to u) : CE ov to s := fun S h1 h2 => h2 s k u hk h (hu S h1 h2)
def cntE (I : pI) (a : Nat) : Nat → Nat
  | 0 => 0
  | n + 1 => cntE I a n + (if I a n = 0 then 0 else 1)
theorem cntE_le {I : pI} {a : Nat} : ∀ n, cntE I a n ≤ n := by
  intro n
  induction n with
  | zero => exact Nat.le_refl _
  | succ n ih => rw [cntE]; split <;> omega
theorem cntE_lt {I : pI} {a t : Nat} (h : I a t = 0) : ∀ n, t < n → cntE I a n < n := by
  intro n
  induction n with
  | zero => intro h; omega
  | succ n ih =>
    intro ht
    rw [cntE]
    by_cases e : t = n
    · subst e; rw [if_pos h]; have := cntE_le (I := I) (a := a) t; omega
    · have := ih (by omega); split <;> omega
theorem cntE_full {I : pI} {a : Nat} : ∀ n, (∀ t, t < n → ¬ I a t = 0) → cntE I a n = n := by
  intro n
  induction n with
  | zero => intro _; rfl
  | succ n ih => intro h; rw [cntE, ih (fun t ht => h t (by omega)), if_neg (h n (by omega))]
theorem cntE_congr {I I' : pI} {a : Nat} : ∀ n, (∀ t, t < n → I' a t = I a t) → cntE I' a n = cntE I a n := by
  intro n
  induction n with
  | zero => intro _; rfl
  | succ n ih => intro h; rw [cntE, cntE, ih (fun t ht => h t (by omega)), h n (by omega)]
theorem cntE_up {I I' : pI} {a t : Nat} (h0 : I a t = 0) (h1 : ¬ I' a t = 0) (h : ∀ i, i ≠ t → I' a i = I a i) : ∀ n, t < n → cntE I' a n = cntE I a n + 1 := by
  intro n
  induction n with
  | zero => intro h; omega
  | succ n ih =>
    intro ht
    rw [cntE, cntE]
    by_cases e : t = n
    · subst e; rw [if_pos h0, if_neg h1, cntE_congr t (fun i hi => h i (by omega))]
    · rw [ih (by omega), h n (fun z => e z.symm)]; omega
def EV (ce : Nat → Prop) (I0 I : pI) (n e : Nat) : Prop := (∀ a k, a ≠ 62 → a ≠ 63 → (a ≠ 48 ∨ k ≠ 13) → I a k = I0 a k) ∧ (I 48 13 = nI e ∧ e = cntE I 62 n) ∧ (∀ i, i < e → ∃ t, t < n ∧ I 63 i = nI t ∧ ¬ I 62 t = 0) ∧ (∀ t, t < n → ¬ I 62 t = 0 → ce t ∧ ∃ i, i < e ∧ I 63 i = nI t)
def EM (I I' : pI) (e e' : Nat) : Prop := e ≤ e' ∧ (∀ t, ¬ I 62 t = 0 → ¬ I' 62 t = 0) ∧ (∀ j, j < e → I' 63 j = I 63 j)
theorem EM.rf {I : pI} {e : Nat} : EM I I e e := ⟨Nat.le_refl _, fun _ h => h, fun _ _ => rfl⟩
theorem EM.tr {I I' I'' : pI} {e e' e'' : Nat} (h : EM I I' e e') (h' : EM I' I'' e' e'') : EM I I'' e e'' := ⟨Nat.le_trans h.1 h'.1, fun t z => h'.2.1 t (h.2.1 t z), fun j hj => (h'.2.2 j (Nat.lt_of_lt_of_le hj h.1)).trans (h.2.2 j hj)⟩
theorem EV.le {ce : Nat → Prop} {I0 I : pI} {n e : Nat} (h : EV ce I0 I n e) : e ≤ n := by rw [h.2.1.2]; exact cntE_le n
theorem neI_62 {I : pI} {e s t : Nat} : neI I e s 62 t = if t = s then 1 else I 62 t := by
  unfold neI
  rw [upI_a (by decide), upI_a (by decide)]
  by_cases h : t = s
  · rw [if_pos h, h, upI_s]
  · rw [if_neg h, upI_k h]
theorem neI_63 {I : pI} {e s t : Nat} : neI I e s 63 t = if t = e then nI s else I 63 t := by
  unfold neI
  rw [upI_a (by decide)]
  by_cases h : t = e
  · rw [if_pos h, h, upI_s]
  · rw [if_neg h, upI_k h, upI_a (by decide)]
theorem EM.note {I : pI} {e s : Nat} : EM I (neI I e s) e (e + 1) := by
  refine ⟨Nat.le_succ _, fun t ht => ?_, fun j hj => ?_⟩
  · rw [neI_62]; split
    · decide
    · exact ht
  · rw [neI_63, if_neg (by omega)]
theorem EV.note {ce : Nat → Prop} {I0 I : pI} {n e s : Nat} (h : EV ce I0 I n e) (hs : s < n) (h0 : I 62 s = 0) (hc : ce s) : EV ce I0 (neI I e s) n (e + 1) := by
  obtain ⟨h1, ⟨h2, h3⟩, h4, h5⟩ := h
  refine ⟨fun a k a1 a2 a3 => ?_, ⟨?_, ?_⟩, fun i hi => ?_, fun t ht hm => ?_⟩
  · rw [← h1 a k a1 a2 a3]
    unfold neI
    rw [a3.elim (fun z => upI_a z) (fun z => upI_k z), upI_a a2, upI_a a1]
  · unfold neI; rw [upI_s]
  · rw [cntE_up (I := I) (t := s) h0 (by rw [neI_62, if_pos rfl]; decide) (fun i hi => by rw [neI_62, if_neg hi]) n hs, ← h3]
  · by_cases e1 : i = e
    · exact ⟨s, hs, by rw [neI_63, if_pos e1], by rw [neI_62, if_pos rfl]; decide⟩
    · obtain ⟨t, t1, t2, t3⟩ := h4 i (by omega)
      exact ⟨t, t1, by rw [neI_63, if_neg e1]; exact t2, EM.note.2.1 t t3⟩
  · by_cases e1 : t = s
    · subst e1; exact ⟨hc, e, Nat.lt_succ_self _, by rw [neI_63, if_pos rfl]⟩
    · rw [neI_62, if_neg e1] at hm
      obtain ⟨g1, i, g2, g3⟩ := h5 t ht hm
      exact ⟨g1, i, by omega, by rw [neI_63, if_neg (by omega)]; exact g3⟩
theorem EV.next {ce : Nat → Prop} {I0 I : pI} {n e : Nat} (h : EV ce I0 I n e) : EV ce I0 (upI I 62 n 0) (n + 1) e := by
  obtain ⟨h1, ⟨h2, h3⟩, h4, h5⟩ := h
  refine ⟨fun a k a1 a2 a3 => by rw [upI_a a1]; exact h1 a k a1 a2 a3, ⟨by rw [upI_a (by decide)]; exact h2, ?_⟩, fun i hi => ?_, fun t ht hm => ?_⟩
  · rw [cntE, upI_s, if_pos rfl, Nat.add_zero, cntE_congr n (fun t ht => upI_k (by omega))]; exact h3
  · obtain ⟨t, t1, t2, t3⟩ := h4 i hi
    exact ⟨t, by omega, by rw [upI_a (by decide)]; exact t2, by rw [upI_k (by omega)]; exact t3⟩
  · by_cases e1 : t = n
    · subst e1; rw [upI_s] at hm; exact absurd rfl hm
    · rw [upI_k e1] at hm
      obtain ⟨g1, i, g2, g3⟩ := h5 t (by omega) hm
      exact ⟨g1, i, g2, by rw [upI_a (by decide)]; exact g3⟩
abbrev m_X3_allCanEnd : pT := (yX3_allCanEnd.cls, cX3_allCanEnd, 4, (some .boolean), { frames := 1, cells := 0, slots := 0, locals := 24 }, [], none)
set_option maxRecDepth 100000 in
set_option maxHeartbeats 4000000 in
theorem l_ce1 {c f : Nat} {ce ov : Nat → Prop} {I0 : pI} (J : pJ) (Q : pQ) (hf3 : f ≤ 3000) (hc : c ≤ 3) (hf : I0 48 2 = nI f) (hcI : I0 50 1 = nI c) (hov0 : ∀ t, ov t = (orL J t c 0 0 = 0)) (hco : ∀ t, ov t → ce t) (hK : ∀ (I' : pI) (e' : Nat), EV ce I0 I' f e' → (∀ t, t < f → ov t → ¬ I' 62 t = 0) → PW m_X3_allCanEnd Q 41 [(0, .ref 48)] [] 84 I' J pRs 0 0) : ∀ (m s e : Nat) (I : pI), s + m = f → EV ce I0 I s e → (∀ t, t < s → ov t → ¬ I 62 t = 0) → PW m_X3_allCanEnd Q 7 [(0, .ref 48), (1, .int (nI s))] [] 84 I J pRs 0 0 := by
  intro m
  induction m with
  | zero =>
    intro s e I hsm hE hO
    refine pw_iload_n dX3_allCanEnd_7 rfl ?_
    refine pw_aload_n dX3_allCanEnd_8 rfl ?_
    refine pw_geti dX3_allCanEnd_9 fl_X3_55 rfl rfl (by decide) (by decide) ?_
    rw [show I 48 2 = nI f by rw [hE.1 48 2 (by decide) (by decide) (by decide)]; exact hf]
    refine pw_icmp_ge (tgt := 41) dX3_allCanEnd_12 (by decide) (fun h12 => ?_) (fun h12 => ?_)
    · refine pw_loc (L' := [(0, .ref 48)]) rfl ?_
      have hsf : s = f := by omega
      subst hsf
      exact hK I e hE hO
    · exact absurd (nI_le (a := f) (b := s) (by omega) (by omega)) h12
  | succ m ih =>
    intro s e I hsm hE hO
    refine pw_iload_n dX3_allCanEnd_7 rfl ?_
    refine pw_aload_n dX3_allCanEnd_8 rfl ?_
    refine pw_geti dX3_allCanEnd_9 fl_X3_55 rfl rfl (by decide) (by decide) ?_
    rw [show I 48 2 = nI f by rw [hE.1 48 2 (by decide) (by decide) (by decide)]; exact hf]
    refine pw_icmp_ge (tgt := 41) dX3_allCanEnd_12 (by decide) (fun h12 => ?_) (fun h12 => ?_)
    · exact absurd ((nI_leI (a := f) (b := s) (by omega) (by omega)).mp h12) (by omega)
    · refine pw_aload_n dX3_allCanEnd_15 rfl ?_
      refine pw_getr dX3_allCanEnd_16 fl_X3_44 rfl rfl (by decide) (by decide) rfl ?_
      refine pw_iload_n dX3_allCanEnd_19 rfl ?_
      refine pw_iconst (v := 0) dX3_allCanEnd_20 (by decide) ?_
      refine pw_zast dX3_allCanEnd_21 rfl (by decide) (by decide) (vp_in_nI (by omega) (by decide)) rfl ?_
      rw [nI_clamp (show s < 2 ^ 31 by omega)]
      have hE0 := hE
      replace hE := hE.next
      have hO1 : ∀ t, t < s → ov t → ¬ upI I 62 s 0 62 t = 0 := fun t ht z => by rw [upI_k (by omega)]; exact hO t ht z
      revert hE hO1
      generalize upI I 62 s 0 = I1
      intro hE hO1
      refine pw_aload_n dX3_allCanEnd_22 rfl ?_
      refine pw_iload_n dX3_allCanEnd_23 rfl ?_
      refine pw_cVi (ci := 3) (y := yX3_isOver) (cc := cX3_isOver) (nL := 5) (ret := (some .boolean)) (rm := { frames := 0, cells := 0, slots := 0, locals := 0 }) dX3_allCanEnd_24 (c_isOver _ _ (by omega) hc (show I1 50 1 = nI c by rw [hE.1 50 1 (by decide) (by decide) (by decide)]; exact hcI)) w_X3_141 rfl (by decide) rfl ⟨by decide, by decide⟩ (by decide) (by decide) rfl (Nat.le_of_ble_eq_true rfl) (fun x24 I24 J24 q24 => ?_)
      obtain ⟨rfl, rfl, rfl⟩ := rvq q24
      refine pw_if_eq (tgt := 35) dX3_allCanEnd_27 (by decide) (fun h27 => ?_) (fun h27 => ?_)
      · refine pw_iinc (v := nI (s + 1)) dX3_allCanEnd_35 rfl (by rw [nI_succ]; rfl) (by decide) ?_
        refine pw_goto (tgt := 7) dX3_allCanEnd_38 (by decide) ?_
        refine pw_loc (L' := [(0, .ref 48), (1, .int (nI (s + 1)))]) rfl ?_
        exact ih (s + 1) e I1 (by omega) hE (fun t ht z => by
          by_cases e1 : t = s
          · subst e1; rw [hov0] at z; rw [if_pos z] at h27; exact absurd h27 (by decide)
          · exact hO1 t (by omega) z)
      · have hov : ov s := by
          rw [hov0]
          exact Classical.byContradiction (fun z => h27 (if_neg z))
        have hce := hco s hov
        refine pw_aload_n dX3_allCanEnd_30 rfl ?_
        refine pw_iload_n dX3_allCanEnd_31 rfl ?_
        refine pw_loc (L' := [(0, .ref 48), (1, .int (nI s))]) rfl ?_
        suffices hk : ∀ (I' : pI) (e' : Nat), EV ce I0 I' (s + 1) e' → EM I1 I' e e' → ¬ I' 62 (s) = 0 → PW m_X3_allCanEnd Q 35 [(0, .ref 48), (1, .int (nI s))] [] 84 I' J pRs 0 0 by
          by_cases h62 : I1 62 (s) = 0
          · refine pw_cVv (ci := 3) (y := yX3_noteEnding) (cc := cX3_noteEnding) (nL := 2) (ret := none) (rm := { frames := 0, cells := 0, slots := 0, locals := 0 }) dX3_allCanEnd_32 (c_noteEnding (s := s) (e := e) _ _ (by omega) h62 hE.2.1.1 (by have := cntE_lt h62 (s + 1) (by omega); have := hE.2.1.2; omega)) w_X3_144 rfl (by decide) rfl ⟨by decide, by decide⟩ (by decide) (by decide) rfl (Nat.le_of_ble_eq_true rfl) (fun I32 J32 q32 => ?_)
            obtain ⟨rfl, rfl⟩ := rvv q32
            exact hk _ _ (hE.note (by omega) h62 hce) EM.note (by rw [neI_62, if_pos rfl]; decide)
          · refine pw_cVv (ci := 3) (y := yX3_noteEnding) (cc := cX3_noteEnding) (nL := 2) (ret := none) (rm := { frames := 0, cells := 0, slots := 0, locals := 0 }) dX3_allCanEnd_32 (c_noteEnding_t (s := s) _ _ (by omega) h62) w_X3_144 rfl (by decide) rfl ⟨by decide, by decide⟩ (by decide) (by decide) rfl (Nat.le_of_ble_eq_true rfl) (fun I32 J32 q32 => ?_)
            obtain ⟨rfl, rfl⟩ := rvv q32
            exact hk _ e hE EM.rf h62
        intro I' e' hE' hM' hne
        refine pw_iinc (v := nI (s + 1)) dX3_allCanEnd_35 rfl (by rw [nI_succ]; rfl) (by decide) ?_
        refine pw_goto (tgt := 7) dX3_allCanEnd_38 (by decide) ?_
        refine pw_loc (L' := [(0, .ref 48), (1, .int (nI (s + 1)))]) rfl ?_
        exact ih (s + 1) e' I' (by omega) hE' (fun t ht z => by
          by_cases e1 : t = s
          · subst e1; exact hne
          · exact hM'.2.1 t (hO1 t (by omega) z))
set_option maxRecDepth 100000 in
set_option maxHeartbeats 4000000 in
theorem l_ce3 {f i t : Nat} {ce : Nat → Prop} {to : Nat → Option Nat} {I0 : pI} (J : pJ) (Q : pQ) (hf3 : f ≤ 3000) (ht : ce t) (hct : ∀ s k u, k < 3 → to (3 * s + k) = some u → ce u → ce s) (h61 : ∀ m, m < 3 * f → to m = some t → I0 61 m = lst to t m) : ∀ (m n e : Nat) (I : pI), n + m ≤ 9000 → m ≤ 3 * f → EV ce I0 I f e → (∀ m', m ≤ m' → m' < 3 * f → to m' = some t → ¬ I 62 (m' / 3) = 0) → (∀ (I' : pI) (e' : Nat), EV ce I0 I' f e' → EM I I' e e' → (∀ m', m' < 3 * f → to m' = some t → ¬ I' 62 (m' / 3) = 0) → PW m_X3_allCanEnd Q 104 [(0, .ref 48), (1, .int (nI i))] [] 84 I' J pRs 0 0) → PW m_X3_allCanEnd Q 72 [(0, .ref 48), (1, .int (nI i)), (2, .int (lst to t m)), (3, .int (nI n))] [] 84 I J pRs 0 0 := by
  intro m
  induction m with
  | zero =>
    intro n e I hn hm hE hD hK
    rw [lst]
    refine pw_iload_n dX3_allCanEnd_72 rfl ?_
    refine pw_sipush (v := 9000) dX3_allCanEnd_73 (by decide) ?_
    refine pw_icmp_ge (tgt := 104) dX3_allCanEnd_76 (by decide) (fun h76 => ?_) (fun h76 => ?_)
    · refine pw_loc (L' := [(0, .ref 48), (1, .int (nI i))]) rfl ?_
      exact hK I e hE EM.rf (fun m' hm => hD m' (Nat.zero_le _) hm)
    · refine pw_iload_n dX3_allCanEnd_79 rfl ?_
      refine pw_iconst (v := (-1)) dX3_allCanEnd_80 (by decide) ?_
      refine pw_icmp_eq (tgt := 104) dX3_allCanEnd_81 (by decide) (fun h81 => ?_) (fun h81 => ?_)
      · refine pw_loc (L' := [(0, .ref 48), (1, .int (nI i))]) rfl ?_
        exact hK I e hE EM.rf (fun m' hm => hD m' (Nat.zero_le _) hm)
      · exact absurd rfl h81
  | succ m ih =>
    intro n e I hn hm hE hD hK
    rw [lst]
    by_cases hto : to m = some t
    · rw [if_pos hto]
      have hce : ce (m / 3) := hct (m / 3) (m % 3) t (by omega) (by rw [show 3 * (m / 3) + m % 3 = m by omega]; exact hto) ht
      refine pw_iload_n dX3_allCanEnd_72 rfl ?_
      refine pw_sipush (v := 9000) dX3_allCanEnd_73 (by decide) ?_
      refine pw_icmp_ge (tgt := 104) dX3_allCanEnd_76 (by decide) (fun h76 => ?_) (fun h76 => ?_)
      · exact absurd ((nI_leI (a := 9000) (b := n) (by decide) (by omega)).mp h76) (by omega)
      · refine pw_iload_n dX3_allCanEnd_79 rfl ?_
        refine pw_iconst (v := (-1)) dX3_allCanEnd_80 (by decide) ?_
        refine pw_icmp_eq (tgt := 104) dX3_allCanEnd_81 (by decide) (fun h81 => ?_) (fun h81 => ?_)
        · exact absurd h81 (nI_m1 (by omega))
        · refine pw_aload_n dX3_allCanEnd_84 rfl ?_
          refine pw_iload_n dX3_allCanEnd_85 rfl ?_
          refine pw_iconst (v := 3) dX3_allCanEnd_86 (by decide) ?_
          refine pw_idiv dX3_allCanEnd_87 (by decide) ?_
          rw [show (3 : Int32) = nI 3 by decide, pk_div (by omega) (by decide) (by decide)]
          refine pw_loc (L' := [(0, .ref 48), (1, .int (nI i)), (2, .int (nI m)), (3, .int (nI n))]) rfl ?_
          suffices hk : ∀ (I' : pI) (e' : Nat), EV ce I0 I' (f) e' → EM I I' e e' → ¬ I' 62 (m / 3) = 0 → PW m_X3_allCanEnd Q 91 [(0, .ref 48), (1, .int (nI i)), (2, .int (nI m)), (3, .int (nI n))] [] 84 I' J pRs 0 0 by
            by_cases h62 : I 62 (m / 3) = 0
            · refine pw_cVv (ci := 3) (y := yX3_noteEnding) (cc := cX3_noteEnding) (nL := 2) (ret := none) (rm := { frames := 0, cells := 0, slots := 0, locals := 0 }) dX3_allCanEnd_88 (c_noteEnding (s := m / 3) (e := e) _ _ (by omega) h62 hE.2.1.1 (by have := cntE_lt h62 (f) (by omega); have := hE.2.1.2; omega)) w_X3_144 rfl (by decide) rfl ⟨by decide, by decide⟩ (by decide) (by decide) rfl (Nat.le_of_ble_eq_true rfl) (fun I88 J88 q88 => ?_)
              obtain ⟨rfl, rfl⟩ := rvv q88
              exact hk _ _ (hE.note (by omega) h62 hce) EM.note (by rw [neI_62, if_pos rfl]; decide)
            · refine pw_cVv (ci := 3) (y := yX3_noteEnding) (cc := cX3_noteEnding) (nL := 2) (ret := none) (rm := { frames := 0, cells := 0, slots := 0, locals := 0 }) dX3_allCanEnd_88 (c_noteEnding_t (s := m / 3) _ _ (by omega) h62) w_X3_144 rfl (by decide) rfl ⟨by decide, by decide⟩ (by decide) (by decide) rfl (Nat.le_of_ble_eq_true rfl) (fun I88 J88 q88 => ?_)
              obtain ⟨rfl, rfl⟩ := rvv q88
              exact hk _ e hE EM.rf h62
          intro I' e' hE' hM' hne
          refine pw_aload_n dX3_allCanEnd_91 rfl ?_
          refine pw_getr dX3_allCanEnd_92 fl_X3_41 rfl rfl (by decide) (by decide) rfl ?_
          refine pw_iload_n dX3_allCanEnd_95 rfl ?_
          refine pw_iald dX3_allCanEnd_96 rfl (by decide) (by decide) (vp_in_nI (by omega) (by decide)) ?_
          rw [nI_clamp (show m < 2 ^ 31 by omega)]
          rw [show I' 61 m = lst to t m by rw [hE'.1 61 m (by decide) (by decide) (Or.inl (by decide))]; exact h61 m (by omega) hto]
          refine pw_istore_n dX3_allCanEnd_97 (by decide) ?_
          refine pw_iinc (v := nI (n + 1)) dX3_allCanEnd_98 rfl (by rw [nI_succ]; rfl) (by decide) ?_
          refine pw_goto (tgt := 72) dX3_allCanEnd_101 (by decide) ?_
          refine pw_loc (L' := [(0, .ref 48), (1, .int (nI i)), (2, .int (lst to t m)), (3, .int (nI (n + 1)))]) rfl ?_
          refine ih (n + 1) e' I' (by omega) (by omega) hE' (fun m' h1 h2 h3 => ?_) (fun I2 e2 g1 g2 g3 => hK I2 e2 g1 (hM'.tr g2) g3)
          by_cases e1 : m' = m
          · subst e1; exact hne
          · exact hM'.2.1 _ (hD m' (by omega) h2 h3)
    · rw [if_neg hto]
      refine ih n e I (by omega) (by omega) hE (fun m' h1 h2 h3 => ?_) hK
      by_cases e1 : m' = m
      · subst e1; exact absurd h3 hto
      · exact hD m' (by omega) h2 h3
set_option maxRecDepth 100000 in
set_option maxHeartbeats 4000000 in
theorem l_ce2 {f : Nat} {ce ov : Nat → Prop} {to : Nat → Option Nat} {I0 : pI} (J : pJ) (Q : pQ) (hf3 : f ≤ 3000) (hct : ∀ s k u, k < 3 → to (3 * s + k) = some u → ce u → ce s) (h60 : ∀ t, t < f → I0 60 t = lst to t (3 * f)) (h61 : ∀ m t, m < 3 * f → to m = some t → I0 61 m = lst to t m) (hK : ∀ (I' : pI) (e' : Nat), EV ce I0 I' f e' → (∀ t, t < f → ov t → ¬ I' 62 t = 0) → (∀ j, j < e' → ∀ u, u < f → I' 63 j = nI u → ∀ m', m' < 3 * f → to m' = some u → ¬ I' 62 (m' / 3) = 0) → PW m_X3_allCanEnd Q 110 [(0, .ref 48)] [] 84 I' J pRs 0 0) : ∀ (m i e : Nat) (I : pI), i + m = f → i ≤ e → EV ce I0 I f e → (∀ t, t < f → ov t → ¬ I 62 t = 0) → (∀ j, j < i → ∀ u, u < f → I 63 j = nI u → ∀ m', m' < 3 * f → to m' = some u → ¬ I 62 (m' / 3) = 0) → PW m_X3_allCanEnd Q 43 [(0, .ref 48), (1, .int (nI i))] [] 84 I J pRs 0 0 := by
  intro m
  induction m with
  | zero =>
    intro i e I him hie0 hE hO hC
    refine pw_iload_n dX3_allCanEnd_43 rfl ?_
    refine pw_aload_n dX3_allCanEnd_44 rfl ?_
    refine pw_geti dX3_allCanEnd_45 fl_X3_138 rfl rfl (by decide) (by decide) ?_
    rw [hE.2.1.1]
    refine pw_icmp_ge (tgt := 110) dX3_allCanEnd_48 (by decide) (fun h48 => ?_) (fun h48 => ?_)
    · have hei : e = i := by have := hE.le; omega
      refine pw_loc (L' := [(0, .ref 48)]) rfl ?_
      exact hK I e hE hO (fun j hj => hC j (by omega))
    · exact absurd (nI_le (a := e) (b := i) (by have := hE.le; omega) (by omega)) h48
  | succ m ih =>
    intro i e I him hie0 hE hO hC
    refine pw_iload_n dX3_allCanEnd_43 rfl ?_
    refine pw_aload_n dX3_allCanEnd_44 rfl ?_
    refine pw_geti dX3_allCanEnd_45 fl_X3_138 rfl rfl (by decide) (by decide) ?_
    rw [hE.2.1.1]
    refine pw_icmp_ge (tgt := 110) dX3_allCanEnd_48 (by decide) (fun h48 => ?_) (fun h48 => ?_)
    · have hei : e = i := by have := (nI_leI (a := e) (b := i) (by have := hE.le; omega) (by omega)).mp h48; omega
      refine pw_loc (L' := [(0, .ref 48)]) rfl ?_
      exact hK I e hE hO (fun j hj => hC j (by omega))
    · refine pw_iload_n dX3_allCanEnd_51 rfl ?_
      refine pw_sipush (v := 3000) dX3_allCanEnd_52 (by decide) ?_
      refine pw_icmp_ge (tgt := 110) dX3_allCanEnd_55 (by decide) (fun h55 => ?_) (fun h55 => ?_)
      · exact absurd ((nI_leI (a := 3000) (b := i) (by decide) (by omega)).mp h55) (by omega)
      · have hie : i < e := Nat.lt_of_not_le (fun z => h48 (nI_le z (by have := hE.le; omega)))
        obtain ⟨t, ht, h63, h62⟩ := hE.2.2.1 i hie
        refine pw_aload_n dX3_allCanEnd_58 rfl ?_
        refine pw_getr dX3_allCanEnd_59 fl_X3_38 rfl rfl (by decide) (by decide) rfl ?_
        refine pw_aload_n dX3_allCanEnd_62 rfl ?_
        refine pw_getr dX3_allCanEnd_63 fl_X3_48 rfl rfl (by decide) (by decide) rfl ?_
        refine pw_iload_n dX3_allCanEnd_66 rfl ?_
        refine pw_iald dX3_allCanEnd_67 rfl (by decide) (by decide) (vp_in_nI (by omega) (by decide)) ?_
        rw [nI_clamp (show i < 2 ^ 31 by omega)]
        rw [h63]
        refine pw_iald dX3_allCanEnd_68 rfl (by decide) (by decide) (vp_in_nI (by omega) (by decide)) ?_
        rw [nI_clamp (show t < 2 ^ 31 by omega)]
        rw [show I 60 t = lst to t (3 * f) by rw [hE.1 60 t (by decide) (by decide) (Or.inl (by decide))]; exact h60 t ht]
        refine pw_istore_n dX3_allCanEnd_69 (by decide) ?_
        refine pw_iconst (v := 0) dX3_allCanEnd_70 (by decide) ?_
        refine pw_istore_n dX3_allCanEnd_71 (by decide) ?_
        refine pw_loc (L' := [(0, .ref 48), (1, .int (nI i)), (2, .int (lst to t (3 * f))), (3, .int (nI 0))]) rfl ?_
        refine l_ce3 (t := t) J Q hf3 (hE.2.2.2 t ht h62).1 hct (fun m hm hto => h61 m t hm hto) (3 * f) 0 e I (by omega) (Nat.le_refl _) hE (fun m' h1 h2 => absurd h2 (by omega)) (fun I' e' g1 g2 g3 => ?_)
        refine pw_iinc (v := nI (i + 1)) dX3_allCanEnd_104 rfl (by rw [nI_succ]; rfl) (by decide) ?_
        refine pw_goto (tgt := 43) dX3_allCanEnd_107 (by decide) ?_
        refine pw_loc (L' := [(0, .ref 48), (1, .int (nI (i + 1)))]) rfl ?_
        refine ih (i + 1) e' I' (by omega) (by have := g2.1; omega) g1 (fun t ht z => g2.2.1 t (hO t ht z)) (fun j hj u hu h9 m' h1 h2 => ?_)
        by_cases e1 : j = i
        · subst e1
          rw [g2.2.2 j hie, h63] at h9
          have e9 : t = u := (nI_eq (by omega) (by omega)).mp h9
          subst e9
          exact g3 m' h1 h2
        · rw [g2.2.2 j (by omega)] at h9
          exact g2.2.1 _ (hC j (by omega) u hu h9 m' h1 h2)
set_option maxRecDepth 100000 in
set_option maxHeartbeats 4000000 in
theorem c_allCanEnd {c f : Nat} {to : Nat → Option Nat} {K : pI} {JK : pJ} (I : pI) (J : pJ) (hc : c ≤ 3) (h : JRow to I J K JK c f f) : pMet yX3_allCanEnd (pws yX3_allCanEnd cX3_allCanEnd 4 (some .boolean)) { frames := 1, cells := 0, slots := 0, locals := 24 } [.ref 48] 84 I J pRs (pOi (fun r I' J' => ((r = 1 ∧ ∀ s, s < f → CE (fun t => orL J t c 0 0 = 0) to s) ∨ (r = 0 ∧ ¬ ∀ s, s < f → CE (fun t => orL J t c 0 0 = 0) to s)) ∧ (∀ a k, a ≠ 62 → a ≠ 63 → (a ≠ 48 ∨ k ≠ 13) → I' a k = I a k) ∧ J' = J)) := by
  obtain ⟨⟨-, ⟨hcI, -⟩, ⟨hf3, hfI, -⟩, -⟩, -, -, -, ⟨h60, h61⟩, -, -⟩ := id h
  refine pMet_of (by decide) (Nat.le_of_ble_eq_true rfl) ?_
  refine pw_aload_n dX3_allCanEnd_0 rfl ?_
  refine pw_iconst (v := 0) dX3_allCanEnd_1 (by decide) ?_
  refine pw_puti dX3_allCanEnd_2 fl_X3_138 rfl rfl rfl rfl rfl (by decide) (by decide) ?_
  refine pw_iconst (v := 0) dX3_allCanEnd_5 (by decide) ?_
  refine pw_istore_n dX3_allCanEnd_6 (by decide) ?_
  refine pw_loc (L' := [(0, .ref 48), (1, .int (nI 0))]) rfl ?_
  refine l_ce1 (ce := CE (fun t => orL J t c 0 0 = 0) to) (ov := fun t => orL J t c 0 0 = 0) (I0 := I) J _ hf3 hc hfI hcI (fun _ => rfl) (fun t z => CE.ov z) (fun I1 e1 hE1 hO1 => ?_) f 0 0 _ (by omega) ⟨fun a k _ _ h => h.elim (fun h => upI_a h) (fun h => upI_k h), ⟨upI_s _ _ _ _, rfl⟩, fun i hi => absurd hi (by omega), fun t ht => absurd ht (by omega)⟩ (fun t ht => absurd ht (by omega))
  refine pw_iconst (v := 0) dX3_allCanEnd_41 (by decide) ?_
  refine pw_istore_n dX3_allCanEnd_42 (by decide) ?_
  refine pw_loc (L' := [(0, .ref 48), (1, .int (nI 0))]) rfl ?_
  refine l_ce2 (ov := fun t => orL J t c 0 0 = 0) (to := to) J _ hf3 (fun s k u hk h hu => CE.to hk h hu) h60 (fun m t h1 h2 => (h61 m t h1 h2).2) (fun I2 e2 hE2 hO2 hC2 => ?_) f 0 e1 I1 (by omega) (by omega) hE1 hO1 (fun j hj => absurd hj (by omega))
  have hfull : ∀ s, s < f → (¬ I2 62 s = 0 ↔ CE (fun t => orL J t c 0 0 = 0) to s) := fun s hs => ⟨fun z => (hE2.2.2.2 s hs z).1, fun z => z (fun t => t < f → ¬ I2 62 t = 0) (fun t h ht => hO2 t ht h) (fun t k u hk hto hu ht => by
    have huf := (h61 (3 * t + k) u (by omega) hto).1
    obtain ⟨-, j, hj, ej⟩ := hE2.2.2.2 u huf (hu huf)
    have := hC2 j hj u huf ej (3 * t + k) (by omega) hto
    rw [show (3 * t + k) / 3 = t by omega] at this
    exact this) hs⟩
  refine pw_aload_n dX3_allCanEnd_110 rfl ?_
  refine pw_geti dX3_allCanEnd_111 fl_X3_138 rfl rfl (by decide) (by decide) ?_
  rw [hE2.2.1.1]
  refine pw_aload_n dX3_allCanEnd_114 rfl ?_
  refine pw_geti dX3_allCanEnd_115 fl_X3_55 rfl rfl (by decide) (by decide) ?_
  rw [show I2 48 2 = nI f by rw [hE2.1 48 2 (by decide) (by decide) (by decide)]; exact hfI]
  refine pw_icmp_ne (tgt := 125) dX3_allCanEnd_118 (by decide) (fun h118 => ?_) (fun h118 => ?_)
  · refine pw_iconst (v := 0) dX3_allCanEnd_125 (by decide) ?_
    refine pw_iret dX3_allCanEnd_126 rfl rfl (by decide) (by decide) ?_
    refine ⟨_, rfl, rfl, rfl, Or.inr ⟨rfl, fun z => h118 ?_⟩, hE2.1, rfl⟩
    rw [hE2.2.1.2, cntE_full f (fun s hs => (hfull s hs).mpr (z s hs))]
  · refine pw_iconst (v := 1) dX3_allCanEnd_121 (by decide) ?_
    refine pw_goto (tgt := 126) dX3_allCanEnd_122 (by decide) ?_
    refine pw_iret dX3_allCanEnd_126 rfl rfl (by decide) (by decide) ?_
    refine ⟨_, rfl, rfl, rfl, Or.inl ⟨rfl, fun s hs => (hfull s hs).mp (fun z => ?_)⟩, hE2.1, rfl⟩
    have e9 : e2 = f := (nI_eq (a := e2) (b := f) (by have := hE2.le; omega) (by omega)).mp h118
    have := cntE_lt z f hs
    have := hE2.2.1.2
    omega
