/-! THE JUDGE of the class: its start, the loops of decide -/
set_option maxRecDepth 100000 in
set_option maxHeartbeats 4000000 in
theorem c_start {c a : Nat} (I : pI) (J : pJ) (hc : c ≤ 3) : pMet yX3_start (pws yX3_start cX3_start 3 none) { frames := 4, cells := 0, slots := 0, locals := 88 } [.ref 48, .int (nI c), .int (nI a)] 84 I J pRs (pOv (fun I' J' => I' = stI I J c a ∧ J' = stJ I J c a)) := by
  refine pMet_of (by decide) (Nat.le_of_ble_eq_true rfl) ?_
  refine pw_aload_n dX3_start_0 rfl ?_
  refine pw_iconst (v := 0) dX3_start_1 (by decide) ?_
  refine pw_puti dX3_start_2 fl_X3_55 rfl rfl rfl rfl rfl (by decide) (by decide) ?_
  refine pw_aload_n dX3_start_5 rfl ?_
  refine pw_iconst (v := 0) dX3_start_6 (by decide) ?_
  refine pw_puti dX3_start_7 fl_X3_70 rfl rfl rfl rfl rfl (by decide) (by decide) ?_
  refine pw_aload_n dX3_start_10 rfl ?_
  refine pw_getr dX3_start_11 fl_X3_32 rfl rfl (by decide) (by decide) rfl ?_
  refine pw_iconst (v := (-1)) dX3_start_14 (by decide) ?_
  refine pw_cSv (y := yJ7_fill_53178) (cc := cJ7_fill_53178) (nL := 4) (ret := none) (rm := { frames := 0, cells := 0, slots := 0, locals := 0 }) dX3_start_15 (c_jfill (a := 58) (N := 8192) (-1) _ _ rfl (by decide) (by decide)) w_X3_73 rfl ⟨by decide, by decide⟩ (by decide) (by decide) rfl (Nat.le_of_ble_eq_true rfl) (fun I15 J15 q15 => ?_)
  obtain ⟨rfl, rfl⟩ := rvv q15
  refine pw_aload_n dX3_start_18 rfl ?_
  refine pw_getr dX3_start_19 fl_X3_18 rfl rfl (by decide) (by decide) rfl ?_
  refine pw_iload_n dX3_start_22 rfl ?_
  refine pw_cVv (ci := 1) (y := yX1_clear) (cc := cX1_clear) (nL := 3) (ret := none) (rm := { frames := 2, cells := 0, slots := 0, locals := 40 }) dX3_start_23 (c_clear _ _ _ (Or.inr rfl)) w_X3_79 rfl (by decide) rfl ⟨by decide, by decide⟩ (by decide) (by decide) rfl (Nat.le_of_ble_eq_true rfl) (fun I23 J23 q23 => ?_)
  obtain ⟨rfl, rfl⟩ := rvv q23
  refine pw_aload_n dX3_start_26 rfl ?_
  refine pw_getr dX3_start_27 fl_X3_22 rfl rfl (by decide) (by decide) rfl ?_
  refine pw_iload_n dX3_start_30 rfl ?_
  refine pw_cSv (y := yJ7_fill_53178) (cc := cJ7_fill_53178) (nL := 4) (ret := none) (rm := { frames := 0, cells := 0, slots := 0, locals := 0 }) dX3_start_31 (c_jfill (a := 55) (N := 3) _ _ _ rfl (by decide) (by decide)) w_X3_73 rfl ⟨by decide, by decide⟩ (by decide) (by decide) rfl (Nat.le_of_ble_eq_true rfl) (fun I31 J31 q31 => ?_)
  obtain ⟨rfl, rfl⟩ := rvv q31
  rw [show flA 55 (nI a) 3 0 (clI (flA 58 (-1) 8192 0 (upI (upI I 48 2 0) 48 1 0)) 50 (nI c)) = stA I c a from rfl]
  refine pw_aload_n dX3_start_34 rfl ?_
  refine pw_aload_n dX3_start_35 rfl ?_
  refine pw_cVi (ci := 3) (y := yX3_slotOfHall) (cc := cX3_slotOfHall) (nL := 5) (ret := (some .int)) (rm := { frames := 3, cells := 0, slots := 0, locals := 64 }) dX3_start_36 (c_slotOfHall _ _ hc stA_c stA_SV) w_X3_83 rfl (by decide) rfl ⟨by decide, by decide⟩ (by decide) (by decide) rfl (Nat.le_of_ble_eq_true rfl) (fun x36 I36 J36 q36 => ?_)
  obtain ⟨rfl, rfl, rfl⟩ := rvq q36
  refine pw_iconst (v := (-1)) dX3_start_39 (by decide) ?_
  refine pw_cVv (ci := 3) (y := yX3_addState) (cc := cX3_addState) (nL := 5) (ret := none) (rm := { frames := 2, cells := 0, slots := 0, locals := 41 }) dX3_start_40 (c_addState0 (f := 0) _ _ slN_lt (by decide) hc (stA_f.trans rfl) stA_c) w_X3_87 rfl (by decide) rfl ⟨by decide, by decide⟩ (by decide) (by decide) rfl (Nat.le_of_ble_eq_true rfl) (fun I40 J40 q40 => ?_)
  obtain ⟨rfl, rfl⟩ := rvv q40
  refine pw_vret dX3_start_43 rfl (by decide) (by decide) ?_
  exact ⟨rfl, rfl, rfl, rfl, rfl⟩
abbrev m_X3_decide : pT := (yX3_decide.cls, cX3_decide, 7, (some .int), { frames := 5, cells := 0, slots := 0, locals := 124 }, [], none)
set_option maxRecDepth 100000 in
set_option maxHeartbeats 4000000 in
theorem l_row {c s : Nat} (hc : c ≤ 3) (Q : pQ) : ∀ (m p : Nat) (to : Nat → Option Nat) (x y : Int32 × Nat × pI × pJ), p + m = c → s < x.2.1 → SR to c s p x y → PW m_X3_decide Q 65 [(0, .ref 48), (1, .ref 1), (2, .int (nI c)), (4, .int (rowC c s m p x).1), (5, .int (nI s))] [] 84 (rowC c s m p x).2.2.1 (rowC c s m p x).2.2.2 pRs 0 0 → PW m_X3_decide Q 37 [(0, .ref 48), (1, .ref 1), (2, .int (nI c)), (4, .int x.1), (5, .int (nI s)), (6, .int (nI p))] [] 84 x.2.2.1 x.2.2.2 pRs 0 0 := by
  intro m
  induction m with
  | zero =>
    intro p to x y hpm hs h hK
    rw [rowC] at hK
    refine pw_iload dX3_decide_37 rfl ?_
    refine pw_iload_n dX3_decide_39 rfl ?_
    refine pw_icmp_ge (tgt := 65) dX3_decide_40 (by decide) (fun h40 => ?_) (fun h40 => ?_)
    · refine pw_loc (L' := [(0, .ref 48), (1, .ref 1), (2, .int (nI c)), (4, .int x.1), (5, .int (nI s))]) rfl ?_
      exact hK
    · exact absurd (nI_le (a := c) (b := p) (by omega) (by omega)) h40
  | succ m ih =>
    intro p to x y hpm hs h hK
    refine pw_iload dX3_decide_37 rfl ?_
    refine pw_iload_n dX3_decide_39 rfl ?_
    refine pw_icmp_ge (tgt := 65) dX3_decide_40 (by decide) (fun h40 => ?_) (fun h40 => ?_)
    · exact absurd ((nI_leI (a := c) (b := p) (by omega) (by omega)).mp h40) (by omega)
    · refine pw_iload dX3_decide_43 rfl ?_
      refine pw_if_ne (tgt := 65) dX3_decide_45 (by decide) (fun h45 => ?_) (fun h45 => ?_)
      · rw [rowC, if_neg h45] at hK
        refine pw_loc (L' := [(0, .ref 48), (1, .ref 1), (2, .int (nI c)), (4, .int x.1), (5, .int (nI s))]) rfl ?_
        exact hK
      · obtain ⟨e, h1⟩ := id h
        obtain ⟨hy, hJ⟩ : y.1 = -1 ∧ JRel to x.2.2.1 x.2.2.2 y.2.2.1 y.2.2.2 c x.2.1 s p := by
          rcases h1 with ⟨-, hy, hJ⟩ | ⟨hx, -⟩
          · exact ⟨hy, hJ⟩
          · rcases hx with ⟨hx, -⟩ | ⟨hx, -⟩ <;> (rw [h45] at hx; exact absurd hx (by decide))
        obtain ⟨hle, to2, hS⟩ := sim_pair hc (show p < c by omega) hs hJ
        rw [rowC, if_pos h45] at hK
        refine pw_aload_n dX3_decide_48 rfl ?_
        refine pw_iload dX3_decide_49 rfl ?_
        refine pw_iload dX3_decide_51 rfl ?_
        refine pw_aload_n dX3_decide_53 rfl ?_
        refine pw_cVi (ci := 3) (y := yX3_follow) (cc := cX3_follow) (nL := 7) (ret := (some .int)) (rm := { frames := 4, cells := 0, slots := 0, locals := 98 }) dX3_decide_54 (c_follow _ _ hc (show p < c by omega) hs hJ) w_X3_59 rfl (by decide) rfl ⟨by decide, by decide⟩ (by decide) (by decide) rfl (Nat.le_of_ble_eq_true rfl) (fun x54 I54 J54 q54 => ?_)
        obtain ⟨rfl, rfl, rfl⟩ := rvq q54
        refine pw_istore dX3_decide_57 (by decide) ?_
        refine pw_iinc (v := nI (p + 1)) dX3_decide_59 rfl (by rw [nI_succ]; rfl) (by decide) ?_
        refine pw_goto (tgt := 37) dX3_decide_62 (by decide) ?_
        refine pw_loc (L' := [(0, .ref 48), (1, .ref 1), (2, .int (nI c)), (4, .int (fwS x.2.2.1 x.2.2.2 c s p x.2.1).1), (5, .int (nI s)), (6, .int (nI (p + 1)))]) rfl ?_
        exact ih (p + 1) to2 _ _ (by omega) (Nat.lt_of_lt_of_le hs hle) hS hK
theorem SA.found {to : Nat → Option Nat} {c s : Nat} {x y : Int32 × Nat × pI × pJ} (h : SA to c s x y) : x.2.1 ≤ 3000 ∧ x.2.2.1 48 2 = nI x.2.1 := by
  rcases h.2 with ⟨-, -, hJ⟩ | ⟨-, hT⟩
  · exact ⟨hJ.1.2.2.1.1, hJ.1.2.2.1.2.1⟩
  · exact ⟨hT.1, hT.2.1⟩
set_option maxRecDepth 100000 in
set_option maxHeartbeats 4000000 in
theorem l_dec {c : Nat} (hc : c ≤ 3) (Q : pQ) : ∀ (m s : Nat) (to : Nat → Option Nat) (x y : Int32 × Nat × pI × pJ), s + m = 3000 → SA to c s x y → PW m_X3_decide Q 71 [(0, .ref 48), (4, .int (allC c m s x).1)] [] 84 (allC c m s x).2.2.1 (allC c m s x).2.2.2 pRs 0 0 → PW m_X3_decide Q 12 [(0, .ref 48), (1, .ref 1), (2, .int (nI c)), (4, .int x.1), (5, .int (nI s))] [] 84 x.2.2.1 x.2.2.2 pRs 0 0 := by
  intro m
  induction m with
  | zero =>
    intro s to x y hsm h hK
    rw [allC] at hK
    obtain ⟨hf3, hfI⟩ := h.found
    refine pw_iload dX3_decide_12 rfl ?_
    refine pw_aload_n dX3_decide_14 rfl ?_
    refine pw_geti dX3_decide_15 fl_X3_55 rfl rfl (by decide) (by decide) ?_
    rw [hfI]
    refine pw_icmp_ge (tgt := 71) dX3_decide_18 (by decide) (fun h18 => ?_) (fun h18 => ?_)
    · refine pw_loc (L' := [(0, .ref 48), (4, .int x.1)]) rfl ?_
      exact hK
    · exact absurd (nI_le (a := x.2.1) (b := s) (by omega) (by omega)) h18
  | succ m ih =>
    intro s to x y hsm h hK
    obtain ⟨hf3, hfI⟩ := h.found
    refine pw_iload dX3_decide_12 rfl ?_
    refine pw_aload_n dX3_decide_14 rfl ?_
    refine pw_geti dX3_decide_15 fl_X3_55 rfl rfl (by decide) (by decide) ?_
    rw [hfI]
    refine pw_icmp_ge (tgt := 71) dX3_decide_18 (by decide) (fun h18 => ?_) (fun h18 => ?_)
    · rw [allC, if_neg (fun z => absurd ((nI_leI (a := x.2.1) (b := s) (by omega) (by omega)).mp h18) (by omega))] at hK
      refine pw_loc (L' := [(0, .ref 48), (4, .int x.1)]) rfl ?_
      exact hK
    · refine pw_iload dX3_decide_21 rfl ?_
      refine pw_sipush (v := 3000) dX3_decide_23 (by decide) ?_
      refine pw_icmp_ge (tgt := 71) dX3_decide_26 (by decide) (fun h26 => ?_) (fun h26 => ?_)
      · exact absurd ((nI_leI (a := 3000) (b := s) (by decide) (by omega)).mp h26) (by omega)
      · refine pw_iload dX3_decide_29 rfl ?_
        refine pw_if_ne (tgt := 71) dX3_decide_31 (by decide) (fun h31 => ?_) (fun h31 => ?_)
        · rw [allC, if_neg (fun z => h31 z.2)] at hK
          refine pw_loc (L' := [(0, .ref 48), (4, .int x.1)]) rfl ?_
          exact hK
        · have hsf : s < x.2.1 := Nat.lt_of_not_le (fun z => h18 (nI_le z (by omega)))
          rw [allC, if_pos ⟨hsf, h31⟩] at hK
          obtain ⟨g1, to2, g2, -⟩ := h.row hc hsf h31
          have hS : SR to c s 0 x (-1, y.2.1, y.2.2.1, upJ y.2.2.2 79 s 0) := by
            obtain ⟨e, h1⟩ := id h
            rcases h1 with ⟨-, hy, hJ⟩ | ⟨hx, -⟩
            · exact ⟨e, Or.inl ⟨h31, rfl, hJ.begin hc⟩⟩
            · rcases hx with ⟨hx, -⟩ | ⟨hx, -⟩ <;> (rw [h31] at hx; exact absurd hx (by decide))
          refine pw_iconst (v := 0) dX3_decide_34 (by decide) ?_
          refine pw_istore dX3_decide_35 (by decide) ?_
          refine pw_loc (L' := [(0, .ref 48), (1, .ref 1), (2, .int (nI c)), (4, .int x.1), (5, .int (nI s)), (6, .int (nI 0))]) rfl ?_
          refine l_row hc Q c 0 to x _ (by omega) hsf hS ?_
          refine pw_iinc (v := nI (s + 1)) dX3_decide_65 rfl (by rw [nI_succ]; rfl) (by decide) ?_
          refine pw_goto (tgt := 12) dX3_decide_68 (by decide) ?_
          refine pw_loc (L' := [(0, .ref 48), (1, .ref 1), (2, .int (nI c)), (4, .int (rowC c s c 0 x).1), (5, .int (nI (s + 1)))]) rfl ?_
          exact ih (s + 1) to2 _ _ (by omega) g2 hK
