set_option maxRecDepth 100000 in
set_option maxHeartbeats 400000 in
theorem z_X5_init (I : pI) (J : pJ) (P : pP) : pMetZ yX5_init (pws yX5_init cX5_init 1 none) { frames := 4, cells := 63, slots := 44458, locals := 84 } [.ref 0] 1 I J P (pOc 64 (fun I' J' P' => P' = pRs ∧ ∃ I2 : pI, (∀ k, I2 0 k = I 0 k) ∧ (∀ a k, 1 ≤ a → a < 64 → a ≠ 2 → a ≠ 44 → a ≠ 51 → a ≠ 57 → I2 a k = 0) ∧ I' = shI I2 1 2)) := by
  refine pMetZ_of (i := true) (by decide) (fun _ => rfl) (Nat.le_of_ble_eq_true rfl) ?_
  refine pw_aload_n dX5_init_0 rfl ?_
  refine pw_obj dX5_init_1 ob_X5 (Nat.le_of_ble_eq_true rfl) (Nat.le_of_ble_eq_true rfl) ?_
  refine pw_aload_n dX5_init_4 rfl ?_
  refine pw_new (ci := 4) dX5_init_5 rfl rfl nw_X5_7 rfl (by decide) (by decide) (by decide) ?_
  refine pw_dup dX5_init_8 rfl ?_
  refine pw_cI (N := 43) (y := yX4_init) (cc := cX4_init) (nL := 2) (rm := { frames := 2, cells := 41, slots := 200, locals := 32 }) dX5_init_9 (z_X4_init _ _ _) rfl rfl iw_X5_9 (by decide) rfl ⟨by decide, by decide⟩ (by decide) (by decide) rfl (Nat.le_of_ble_eq_true rfl) (fun I9 J9 P9 q9 => ?_)
  obtain ⟨p1, p2, p3, p4⟩ := q9
  refine pw_putr dX5_init_12 rfl fl_X5_10 pf_X5_0 rfl (fun _ => rfl) (fun _ => rfl) rfl (by decide) (by decide) (by decide) ?_
  refine pw_aload_n dX5_init_15 rfl ?_
  refine pw_new (ci := 1) dX5_init_16 rfl rfl nw_X5_16 rfl (by decide) (by decide) (by decide) ?_
  refine pw_dup dX5_init_19 rfl ?_
  refine pw_cI (N := 48) (y := yX1_init) (cc := cX1_init) (nL := 2) (rm := { frames := 2, cells := 4, slots := 21, locals := 32 }) dX5_init_20 (z_X1_init (h := 43) (Or.inl rfl) _ _ _) rfl rfl iw_X5_18 (by decide) rfl ⟨by decide, by decide⟩ (by decide) (by decide) rfl (Nat.le_of_ble_eq_true rfl) (fun I20 J20 P20 q20 => ?_)
  obtain ⟨q1, q2, q3, q4⟩ := q20
  refine pw_putr dX5_init_23 rfl fl_X5_19 pf_X5_1 rfl (fun _ => rfl) (fun _ => rfl) rfl (by decide) (by decide) (by decide) ?_
  refine pw_aload_n dX5_init_26 rfl ?_
  refine pw_new (ci := 3) dX5_init_27 rfl rfl nw_X5_23 rfl (by decide) (by decide) (by decide) ?_
  refine pw_dup dX5_init_30 rfl ?_
  refine pw_cI (N := 64) (y := yX3_init) (cc := cX3_init) (nL := 1) (rm := { frames := 3, cells := 15, slots := 44219, locals := 53 }) dX5_init_31 (z_X3_init _ _ _) rfl rfl iw_X5_25 (by decide) rfl ⟨by decide, by decide⟩ (by decide) (by decide) rfl (Nat.le_of_ble_eq_true rfl) (fun I31 J31 P31 q31 => ?_)
  obtain ⟨r1, r2, r3, r4⟩ := q31
  refine pw_putr dX5_init_34 rfl fl_X5_26 pf_X5_2 rfl (fun _ => rfl) (fun _ => rfl) rfl (by decide) (by decide) (by decide) ?_
  refine pw_P2 (P' := pRs) (by decide) (fun a k ha hR => ?_) ?_
  · by_cases a0 : a = 0
    · subst a0
      rcases (show k = 0 ∨ k = 1 ∨ k = 2 by unfold RQ at hR; omega) with rfl | rfl | rfl
      · rw [upP_ne (by omega), r2 0 0 (by omega), zP_ne (by omega), upP_ne (by omega), q2 0 0 (by omega), zP_ne (by omega), upP_eq]; rfl
      · rw [upP_ne (by omega), r2 0 1 (by omega), zP_ne (by omega), upP_eq]; rfl
      · rw [upP_eq]; rfl
    · rw [upP_ne (by omega)]
      by_cases a48 : 48 ≤ a
      · exact r4 a k a48 ha hR
      · rw [r2 a k (by omega), zP_ne (by omega), upP_ne (by omega)]
        by_cases a43 : 43 ≤ a
        · exact q4 a k a43 (by omega) hR
        · rw [q2 a k (by omega), zP_ne (by omega), upP_ne (by omega)]
          exact p4 a k (by omega) (by omega) hR
  refine pw_aload_n dX5_init_37 rfl ?_
  refine pw_iconst (v := 1) dX5_init_38 (by decide) ?_
  refine pw_iconst (v := 2) dX5_init_39 (by decide) ?_
  refine pw_cVv_64 (ci := 5) (y := yX5_show) (cc := cX5_show) (nL := 3) (ret := none) (rm := { frames := 3, cells := 0, slots := 0, locals := 62 }) dX5_init_40 (c_show_64 1 2 _ _) w_X5_30 rfl (by decide) rfl ⟨by decide, by decide⟩ (by decide) (by decide) rfl (Nat.le_of_ble_eq_true rfl) (fun I40 J40 q40 => ?_)
  obtain ⟨rfl, rfl⟩ := rvv q40
  refine pw_vret dX5_init_43 rfl (Nat.le_of_ble_eq_true rfl) (Nat.le_of_ble_eq_true rfl) ?_
  refine ⟨rfl, rfl, rfl, _, fun k => ?_, fun a k ha hb h1 h2 h3 h4 => ?_, rfl⟩
  · rw [r1 0 k (by omega), zI_ne (by omega), q1 0 k (by omega), zI_ne (by omega), p1 0 k (by omega), zI_ne (by omega)]
  · by_cases a49 : 49 ≤ a
    · exact r3 a k a49 hb h1 h2 h3 h4
    · rw [r1 a k (by omega)]
      by_cases a48 : a = 48
      · subst a48; exact zI_eq
      · rw [zI_ne a48]
        by_cases a44 : 44 ≤ a
        · exact q3 a k a44 (by omega) h1 h2 h3 h4
        · rw [q1 a k (by omega)]
          by_cases a43 : a = 43
          · subst a43; exact zI_eq
          · rw [zI_ne a43]
            by_cases a2 : 2 ≤ a
            · exact p3 a k a2 (by omega) h1 h2 h3 h4
            · rw [p1 a k (by omega), show a = 1 by omega]; exact zI_eq
